/-- worlds by their leaves -/
def qVy (x0 x1 x2 : Nat) (x3 x4 : Value) (x5 : Int32) (x6 x7 : Nat) (x8 x9 x10 : Int32) (x11 : Value) (x12 x13 : Int32) (x14 : Nat) (x15 : ClassId) (x16 : NI) (x17 : Nat) (x18 : ClassId) (x19 : NI) (x20 : Nat) (x21 : ClassId) (x22 : NI) : va_W := [(x0, .inr (4, [.ref x1, .ref x2, x3, x4, .int x5])), (x6, .inr (8, [.ref x7, .int x8, .int x9, .int x10, x11, .int x12, .int x13])), (x14, .inl (x15, 600, .inl x16)), (x17, .inl (x18, 150, .inl x19)), (x20, .inl (x21, 150, .inl x22))]
def qqX (x0 x1 : Nat) (x2 x3 x4 : Int32) (x5 : Value) (x6 x7 : Int32) (x8 : Nat) (x9 : ClassId) (x10 : NI) : va_W := [(x0, .inr (8, [.ref x1, .int x2, .int x3, .int x4, x5, .int x6, .int x7])), (x8, .inl (x9, 600, .inl x10))]
def qa4H (x0 x1 x2 : Nat) (x3 x4 : Value) (x5 : Int32) (x6 : Nat) (x7 : ClassId) (x8 : NI) (x9 : Nat) (x10 : ClassId) (x11 : NI) : va_W := [(x0, .inr (4, [.ref x1, .ref x2, x3, x4, .int x5])), (x6, .inl (x7, 150, .inl x8)), (x9, .inl (x10, 150, .inl x11))]
def qK5 (x0 x1 : Nat) (x2 x3 : Value) (x4 x5 : Nat) (x6 x7 x8 : Value) (x9 : Nat) (x10 x11 x12 x13 x14 x15 x16 x17 x18 : Value) (x19 : Int32) (x20 x21 : Nat) (x22 x23 x24 x25 x26 x27 : Int32) (x28 x29 x30 : Nat) (x31 x32 : Value) (x33 : Int32) (x34 : Nat) (x35 : ClassId) (x36 : NI) (x37 : Nat) (x38 : ClassId) (x39 : NI) (x40 : Nat) (x41 : ClassId) (x42 : NI) (x43 : Nat) (x44 x45 x46 x47 : Value) : va_W := [(x0, .inr (10, [.ref x1, x2, x3, .ref x4, .ref x5, x6, x7, x8, .ref x9, x10, x11, x12, x13, x14, x15, x16, x17, x18, .int x19])), (x20, .inr (8, [.ref x21, .int x22, .int x23, .int x24, .int x25, .int x26, .int x27])), (x28, .inr (4, [.ref x29, .ref x30, x31, x32, .int x33])), (x34, .inl (x35, 600, .inl x36)), (x37, .inl (x38, 150, .inl x39)), (x40, .inl (x41, 150, .inl x42)), (x43, .inr (1, [x44, x45, x46, x47]))]
def qa0r (x0 x1 : Nat) (x2 x3 x4 x5 x6 x7 x8 : Value) (x9 : Nat) (x10 x11 x12 x13 x14 x15 x16 x17 x18 : Value) (x19 : Int32) (x20 x21 : Nat) (x22 x23 x24 x25 x26 x27 : Int32) (x28 x29 x30 : Nat) (x31 x32 : Value) (x33 : Int32) (x34 : Nat) (x35 : ClassId) (x36 : NI) (x37 : Nat) (x38 : ClassId) (x39 : NI) (x40 : Nat) (x41 : ClassId) (x42 : NI) (x43 : Nat) (x44 x45 x46 x47 : Value) : va_W := [(x0, .inr (10, [.ref x1, x2, x3, x4, x5, x6, x7, x8, .ref x9, x10, x11, x12, x13, x14, x15, x16, x17, x18, .int x19])), (x20, .inr (8, [.ref x21, .int x22, .int x23, .int x24, .int x25, .int x26, .int x27])), (x28, .inr (4, [.ref x29, .ref x30, x31, x32, .int x33])), (x34, .inl (x35, 600, .inl x36)), (x37, .inl (x38, 150, .inl x39)), (x40, .inl (x41, 150, .inl x42)), (x43, .inr (1, [x44, x45, x46, x47]))]
def qa4W (x0 x1 : Nat) (x2 x3 : Value) (x4 x5 : Nat) (x6 x7 x8 : Value) (x9 : Nat) (x10 x11 x12 x13 x14 x15 x16 x17 x18 : Value) (x19 : Int32) (x20 x21 : Nat) (x22 x23 x24 x25 x26 x27 : Int32) : va_W := [(x0, .inr (10, [.ref x1, x2, x3, .ref x4, .ref x5, x6, x7, x8, .ref x9, x10, x11, x12, x13, x14, x15, x16, x17, x18, .int x19])), (x20, .inr (8, [.ref x21, .int x22, .int x23, .int x24, .int x25, .int x26, .int x27]))]
def qbcq (x0 x1 x2 : Nat) (x3 x4 : Value) (x5 : Int32) (x6 : Nat) (x7 : ClassId) (x8 : NI) (x9 : Nat) (x10 : ClassId) (x11 : NI) (x12 : Nat) (x13 : ClassId) (x14 : NI) (x15 : Nat) (x16 x17 x18 x19 : Value) : va_W := [(x0, .inr (4, [.ref x1, .ref x2, x3, x4, .int x5])), (x6, .inl (x7, 600, .inl x8)), (x9, .inl (x10, 150, .inl x11)), (x12, .inl (x13, 150, .inl x14)), (x15, .inr (1, [x16, x17, x18, x19]))]
def qbcX (x0 x1 x2 : Nat) (x3 x4 : Value) (x5 : Int32) (x6 x7 : Nat) (x8 x9 x10 x11 x12 x13 : Int32) (x14 : Nat) (x15 : ClassId) (x16 : NI) (x17 : Nat) (x18 : ClassId) (x19 : NI) (x20 : Nat) (x21 : ClassId) (x22 : NI) : va_W := [(x0, .inr (4, [.ref x1, .ref x2, x3, x4, .int x5])), (x6, .inr (8, [.ref x7, .int x8, .int x9, .int x10, .int x11, .int x12, .int x13])), (x14, .inl (x15, 600, .inl x16)), (x17, .inl (x18, 150, .inl x19)), (x20, .inl (x21, 150, .inl x22))]
def qaZ3 (x0 x1 : Nat) (x2 x3 x4 x5 x6 x7 : Int32) : va_W := [(x0, .inr (8, [.ref x1, .int x2, .int x3, .int x4, .int x5, .int x6, .int x7]))]
def qbkS (x0 : Nat) (x1 x2 x3 x4 : Value) : va_W := [(x0, .inr (1, [x1, x2, x3, x4]))]
def qbe0 (x0 x1 : Nat) (x2 x3 : Value) (x4 x5 : Nat) (x6 x7 x8 : Value) (x9 : Nat) (x10 x11 x12 x13 x14 x15 x16 x17 x18 : Value) (x19 : Int32) (x20 x21 : Nat) (x22 x23 x24 x25 x26 x27 : Int32) (x28 x29 x30 : Nat) (x31 x32 : Value) (x33 : Int32) (x34 : Nat) (x35 : ClassId) (x36 : NI) (x37 : Nat) (x38 : ClassId) (x39 : NI) (x40 : Nat) (x41 : ClassId) (x42 : NI) (x43 : Nat) (x44 x45 x46 : Value) (x47 : Nat) : va_W := [(x0, .inr (10, [.ref x1, x2, x3, .ref x4, .ref x5, x6, x7, x8, .ref x9, x10, x11, x12, x13, x14, x15, x16, x17, x18, .int x19])), (x20, .inr (8, [.ref x21, .int x22, .int x23, .int x24, .int x25, .int x26, .int x27])), (x28, .inr (4, [.ref x29, .ref x30, x31, x32, .int x33])), (x34, .inl (x35, 600, .inl x36)), (x37, .inl (x38, 150, .inl x39)), (x40, .inl (x41, 150, .inl x42)), (x43, .inr (1, [x44, x45, x46, .ref x47]))]
def qam9 (x0 x1 : Nat) (x2 x3 : Value) (x4 x5 : Nat) (x6 x7 x8 : Value) (x9 : Nat) (x10 x11 x12 x13 x14 x15 x16 x17 x18 : Value) (x19 : Int32) (x20 x21 : Nat) (x22 x23 x24 x25 x26 x27 : Int32) (x28 x29 x30 : Nat) (x31 x32 : Value) (x33 : Int32) (x34 : Nat) (x35 : ClassId) (x36 : NI) (x37 : Nat) (x38 : ClassId) (x39 : NI) (x40 : Nat) (x41 : ClassId) (x42 : NI) (x43 : Nat) (x44 x45 x46 x47 : Value) (x48 : Nat) (x49 : ClassId) (x50 : Nat) (x51 : Nat → Int64) : va_W := [(x0, .inr (10, [.ref x1, x2, x3, .ref x4, .ref x5, x6, x7, x8, .ref x9, x10, x11, x12, x13, x14, x15, x16, x17, x18, .int x19])), (x20, .inr (8, [.ref x21, .int x22, .int x23, .int x24, .int x25, .int x26, .int x27])), (x28, .inr (4, [.ref x29, .ref x30, x31, x32, .int x33])), (x34, .inl (x35, 600, .inl x36)), (x37, .inl (x38, 150, .inl x39)), (x40, .inl (x41, 150, .inl x42)), (x43, .inr (1, [x44, x45, x46, x47])), (x48, .inl (x49, x50, .inr (.inl x51)))]
def qajt (x0 x1 : Nat) (x2 x3 x4 x5 x6 x7 x8 : Value) (x9 : Nat) (x10 x11 x12 x13 x14 x15 x16 x17 x18 : Value) (x19 : Int32) (x20 x21 : Nat) (x22 x23 x24 x25 x26 x27 : Int32) (x28 x29 x30 : Nat) (x31 x32 : Value) (x33 : Int32) (x34 : Nat) (x35 : ClassId) (x36 : NI) (x37 : Nat) (x38 : ClassId) (x39 : NI) (x40 : Nat) (x41 : ClassId) (x42 : NI) (x43 : Nat) (x44 x45 x46 x47 : Value) (x48 : Nat) (x49 : ClassId) (x50 : Nat) (x51 : Nat → Int64) : va_W := [(x0, .inr (10, [.ref x1, x2, x3, x4, x5, x6, x7, x8, .ref x9, x10, x11, x12, x13, x14, x15, x16, x17, x18, .int x19])), (x20, .inr (8, [.ref x21, .int x22, .int x23, .int x24, .int x25, .int x26, .int x27])), (x28, .inr (4, [.ref x29, .ref x30, x31, x32, .int x33])), (x34, .inl (x35, 600, .inl x36)), (x37, .inl (x38, 150, .inl x39)), (x40, .inl (x41, 150, .inl x42)), (x43, .inr (1, [x44, x45, x46, x47])), (x48, .inl (x49, x50, .inr (.inl x51)))]
def qDo (x0 x1 x2 x3 x4 x5 x6 x7 : Nat) (x8 : Value) (x9 x10 x11 : Int32) (x12 : Value) (x13 x14 : Nat) (x15 x16 x17 : Int32) (x18 : Value) (x19 x20 : Int32) (x21 : Nat) (x22 : ClassId) (x23 : NI) (x24 : Nat) (x25 : ClassId) (x26 : NI) (x27 : Nat) (x28 : ClassId) (x29 : NI) (x30 : Nat) (x31 : ClassId) (x32 : NI) (x33 : Nat) (x34 : ClassId) (x35 : NI) (x36 : Nat) (x37 : ClassId) (x38 : NI) (x39 : Nat) (x40 : ClassId) (x41 : NI) (x42 : Nat) (x43 : ClassId) (x44 : NI) : va_W := [(x0, .inr (2, [.ref x1, .ref x2, .ref x3, .ref x4, .ref x5, .ref x6, .ref x7, x8, .int x9, .int x10, .int x11, x12])), (x13, .inr (8, [.ref x14, .int x15, .int x16, .int x17, x18, .int x19, .int x20])), (x21, .inl (x22, 600, .inl x23)), (x24, .inl (x25, 36, .inl x26)), (x27, .inl (x28, 4, .inl x29)), (x30, .inl (x31, 4, .inl x32)), (x33, .inl (x34, 6, .inl x35)), (x36, .inl (x37, 6, .inl x38)), (x39, .inl (x40, 8, .inl x41)), (x42, .inl (x43, 8, .inl x44))]
def qaD3 (x0 x1 x2 x3 x4 x5 x6 x7 : Nat) (x8 : Value) (x9 x10 x11 : Int32) (x12 : Value) (x13 : Nat) (x14 : ClassId) (x15 : NI) (x16 : Nat) (x17 : ClassId) (x18 : NI) (x19 : Nat) (x20 : ClassId) (x21 : NI) (x22 : Nat) (x23 : ClassId) (x24 : NI) (x25 : Nat) (x26 : ClassId) (x27 : NI) (x28 : Nat) (x29 : ClassId) (x30 : NI) (x31 : Nat) (x32 : ClassId) (x33 : NI) : va_W := [(x0, .inr (2, [.ref x1, .ref x2, .ref x3, .ref x4, .ref x5, .ref x6, .ref x7, x8, .int x9, .int x10, .int x11, x12])), (x13, .inl (x14, 36, .inl x15)), (x16, .inl (x17, 4, .inl x18)), (x19, .inl (x20, 4, .inl x21)), (x22, .inl (x23, 6, .inl x24)), (x25, .inl (x26, 6, .inl x27)), (x28, .inl (x29, 8, .inl x30)), (x31, .inl (x32, 8, .inl x33))]
def qa9Z (x0 x1 x2 x3 x4 x5 x6 x7 : Nat) (x8 : Value) (x9 x10 x11 : Int32) (x12 : Value) (x13 x14 : Nat) (x15 x16 x17 : Int32) (x18 : Value) (x19 x20 : Int32) (x21 : Nat) (x22 : ClassId) (x23 : NI) (x24 : Nat) (x25 : ClassId) (x26 : NI) : va_W := [(x0, .inr (2, [.ref x1, .ref x2, .ref x3, .ref x4, .ref x5, .ref x6, .ref x7, x8, .int x9, .int x10, .int x11, x12])), (x13, .inr (8, [.ref x14, .int x15, .int x16, .int x17, x18, .int x19, .int x20])), (x21, .inl (x22, 600, .inl x23)), (x24, .inl (x25, 36, .inl x26))]
def qa78 (x0 x1 x2 x3 x4 x5 x6 x7 : Nat) (x8 : Value) (x9 x10 x11 : Int32) (x12 : Value) (x13 x14 : Nat) (x15 x16 x17 : Int32) (x18 : Value) (x19 x20 : Int32) (x21 : Nat) (x22 : ClassId) (x23 : NI) (x24 : Nat) (x25 : ClassId) (x26 : NI) (x27 : Nat) (x28 : ClassId) (x29 : NI) : va_W := [(x0, .inr (2, [.ref x1, .ref x2, .ref x3, .ref x4, .ref x5, .ref x6, .ref x7, x8, .int x9, .int x10, .int x11, x12])), (x13, .inr (8, [.ref x14, .int x15, .int x16, .int x17, x18, .int x19, .int x20])), (x21, .inl (x22, 600, .inl x23)), (x24, .inl (x25, 4, .inl x26)), (x27, .inl (x28, 4, .inl x29))]
def qa45 (x0 x1 x2 x3 x4 x5 x6 x7 : Nat) (x8 : Value) (x9 x10 x11 : Int32) (x12 : Value) (x13 x14 : Nat) (x15 x16 x17 : Int32) (x18 : Value) (x19 x20 : Int32) (x21 : Nat) (x22 : ClassId) (x23 : NI) (x24 : Nat) (x25 : ClassId) (x26 : NI) (x27 : Nat) (x28 : ClassId) (x29 : NI) : va_W := [(x0, .inr (2, [.ref x1, .ref x2, .ref x3, .ref x4, .ref x5, .ref x6, .ref x7, x8, .int x9, .int x10, .int x11, x12])), (x13, .inr (8, [.ref x14, .int x15, .int x16, .int x17, x18, .int x19, .int x20])), (x21, .inl (x22, 600, .inl x23)), (x24, .inl (x25, 6, .inl x26)), (x27, .inl (x28, 6, .inl x29))]
def qa3d (x0 x1 x2 x3 x4 x5 x6 x7 : Nat) (x8 : Value) (x9 x10 x11 : Int32) (x12 : Value) (x13 x14 : Nat) (x15 x16 x17 : Int32) (x18 : Value) (x19 x20 : Int32) (x21 : Nat) (x22 : ClassId) (x23 : NI) (x24 : Nat) (x25 : ClassId) (x26 : NI) (x27 : Nat) (x28 : ClassId) (x29 : NI) : va_W := [(x0, .inr (2, [.ref x1, .ref x2, .ref x3, .ref x4, .ref x5, .ref x6, .ref x7, x8, .int x9, .int x10, .int x11, x12])), (x13, .inr (8, [.ref x14, .int x15, .int x16, .int x17, x18, .int x19, .int x20])), (x21, .inl (x22, 600, .inl x23)), (x24, .inl (x25, 8, .inl x26)), (x27, .inl (x28, 8, .inl x29))]
def qpA (x0 x1 x2 x3 x4 x5 x6 x7 : Nat) (x8 : Value) (x9 x10 x11 x12 : Int32) (x13 : Nat) (x14 : ClassId) (x15 : NI) (x16 x17 : Nat) (x18 x19 x20 : Int32) (x21 : Value) (x22 x23 : Int32) (x24 : Nat) (x25 : ClassId) (x26 : NI) (x27 : Nat) (x28 : ClassId) (x29 : NI) (x30 : Nat) (x31 : ClassId) (x32 : NI) (x33 : Nat) (x34 : ClassId) (x35 : NI) (x36 : Nat) (x37 : ClassId) (x38 : NI) (x39 : Nat) (x40 : ClassId) (x41 : NI) (x42 : Nat) (x43 : ClassId) (x44 : NI) : va_W := [(x0, .inr (2, [.ref x1, .ref x2, .ref x3, .ref x4, .ref x5, .ref x6, .ref x7, x8, .int x9, .int x10, .int x11, .int x12])), (x13, .inl (x14, 36, .inl x15)), (x16, .inr (8, [.ref x17, .int x18, .int x19, .int x20, x21, .int x22, .int x23])), (x24, .inl (x25, 600, .inl x26)), (x27, .inl (x28, 8, .inl x29)), (x30, .inl (x31, 4, .inl x32)), (x33, .inl (x34, 8, .inl x35)), (x36, .inl (x37, 4, .inl x38)), (x39, .inl (x40, 6, .inl x41)), (x42, .inl (x43, 6, .inl x44))]
def qa4S (x0 x1 x2 x3 x4 x5 x6 x7 : Nat) (x8 : Value) (x9 x10 x11 x12 : Int32) (x13 x14 : Nat) (x15 x16 x17 : Int32) (x18 : Value) (x19 x20 : Int32) (x21 : Nat) (x22 : ClassId) (x23 : NI) (x24 : Nat) (x25 : ClassId) (x26 : NI) (x27 : Nat) (x28 : ClassId) (x29 : NI) (x30 : Nat) (x31 : ClassId) (x32 : NI) (x33 : Nat) (x34 : ClassId) (x35 : NI) (x36 : Nat) (x37 : ClassId) (x38 : NI) (x39 : Nat) (x40 : ClassId) (x41 : NI) (x42 : Nat) (x43 : ClassId) (x44 : NI) : va_W := [(x0, .inr (2, [.ref x1, .ref x2, .ref x3, .ref x4, .ref x5, .ref x6, .ref x7, x8, .int x9, .int x10, .int x11, .int x12])), (x13, .inr (8, [.ref x14, .int x15, .int x16, .int x17, x18, .int x19, .int x20])), (x21, .inl (x22, 600, .inl x23)), (x24, .inl (x25, 36, .inl x26)), (x27, .inl (x28, 4, .inl x29)), (x30, .inl (x31, 4, .inl x32)), (x33, .inl (x34, 6, .inl x35)), (x36, .inl (x37, 6, .inl x38)), (x39, .inl (x40, 8, .inl x41)), (x42, .inl (x43, 8, .inl x44))]
def qa4r (x0 x1 x2 x3 x4 x5 x6 x7 : Nat) (x8 : Value) (x9 x10 x11 x12 : Int32) (x13 : Nat) (x14 : ClassId) (x15 : NI) (x16 : Nat) (x17 : ClassId) (x18 : NI) (x19 : Nat) (x20 : ClassId) (x21 : NI) (x22 : Nat) (x23 : ClassId) (x24 : NI) : va_W := [(x0, .inr (2, [.ref x1, .ref x2, .ref x3, .ref x4, .ref x5, .ref x6, .ref x7, x8, .int x9, .int x10, .int x11, .int x12])), (x13, .inl (x14, 8, .inl x15)), (x16, .inl (x17, 4, .inl x18)), (x19, .inl (x20, 8, .inl x21)), (x22, .inl (x23, 4, .inl x24))]
def qa9A (x0 x1 : Nat) (x2 x3 x4 : Int32) (x5 : Value) (x6 x7 : Int32) : va_W := [(x0, .inr (8, [.ref x1, .int x2, .int x3, .int x4, x5, .int x6, .int x7]))]
def qzN (x0 x1 x2 x3 x4 : Nat) (x5 : Value) (x6 : Nat) (x7 x8 : Value) (x9 : Nat) (x10 : Value) (x11 : Nat) (x12 x13 x14 x15 : Value) (x16 x17 : Int32) (x18 : Value) (x19 : Int32) (x20 x21 : Nat) (x22 x23 x24 x25 x26 x27 : Int32) (x28 x29 x30 x31 x32 x33 x34 x35 : Nat) (x36 : Value) (x37 x38 x39 x40 : Int32) (x41 : Nat) (x42 : ClassId) (x43 : NI) (x44 : Nat) (x45 : ClassId) (x46 : NI) (x47 : Nat) (x48 : ClassId) (x49 : NI) (x50 : Nat) (x51 : ClassId) (x52 : NI) (x53 : Nat) (x54 : ClassId) (x55 : NI) (x56 : Nat) (x57 : ClassId) (x58 : NI) (x59 : Nat) (x60 : ClassId) (x61 : NI) (x62 : Nat) (x63 : ClassId) (x64 : NI) (x65 x66 x67 : Nat) (x68 x69 : Value) (x70 : Int32) (x71 : Nat) (x72 : ClassId) (x73 : NI) (x74 : Nat) (x75 : ClassId) (x76 : NI) (x77 x78 : Nat) (x79 : Int32) (x80 : Nat) (x81 : ClassId) (x82 : NI) (x83 x84 : Nat) (x85 x86 x87 : Value) (x88 : Nat) (x89 : ClassId) (x90 : NI) (x91 : Nat) (x92 : Value) (x93 : Int32) : va_W := [(x0, .inr (10, [.ref x1, .ref x2, .ref x3, .ref x4, x5, .ref x6, x7, x8, .ref x9, x10, .ref x11, x12, x13, x14, x15, .int x16, .int x17, x18, .int x19])), (x20, .inr (8, [.ref x21, .int x22, .int x23, .int x24, .int x25, .int x26, .int x27])), (x28, .inr (2, [.ref x29, .ref x30, .ref x31, .ref x32, .ref x33, .ref x34, .ref x35, x36, .int x37, .int x38, .int x39, .int x40])), (x41, .inl (x42, 36, .inl x43)), (x44, .inl (x45, 600, .inl x46)), (x47, .inl (x48, 8, .inl x49)), (x50, .inl (x51, 4, .inl x52)), (x53, .inl (x54, 8, .inl x55)), (x56, .inl (x57, 4, .inl x58)), (x59, .inl (x60, 6, .inl x61)), (x62, .inl (x63, 6, .inl x64)), (x65, .inr (4, [.ref x66, .ref x67, x68, x69, .int x70])), (x71, .inl (x72, 150, .inl x73)), (x74, .inl (x75, 150, .inl x76)), (x77, .inr (0, [.ref x78, .int x79])), (x80, .inl (x81, 8, .inl x82)), (x83, .inr (1, [.ref x84, x85, x86, x87])), (x88, .inl (x89, 64, .inl x90)), (x91, .inr (5, [x92, .int x93]))]
def qaSp (x0 x1 : Nat) (x2 x3 : Value) (x4 : Nat) (x5 : Value) (x6 : Nat) (x7 x8 : Value) (x9 : Nat) (x10 : Value) (x11 : Nat) (x12 x13 x14 x15 : Value) (x16 x17 : Int32) (x18 : Value) (x19 : Int32) (x20 x21 : Nat) (x22 x23 x24 x25 x26 x27 : Int32) (x28 x29 x30 x31 x32 x33 x34 x35 : Nat) (x36 : Value) (x37 x38 x39 x40 : Int32) (x41 : Nat) (x42 : ClassId) (x43 : NI) (x44 : Nat) (x45 : ClassId) (x46 : NI) (x47 : Nat) (x48 : ClassId) (x49 : NI) (x50 : Nat) (x51 : ClassId) (x52 : NI) (x53 : Nat) (x54 : ClassId) (x55 : NI) (x56 : Nat) (x57 : ClassId) (x58 : NI) (x59 : Nat) (x60 : ClassId) (x61 : NI) (x62 : Nat) (x63 : ClassId) (x64 : NI) (x65 x66 x67 : Nat) (x68 x69 : Value) (x70 : Int32) (x71 : Nat) (x72 : ClassId) (x73 : NI) (x74 : Nat) (x75 : ClassId) (x76 : NI) (x77 x78 : Nat) (x79 : Int32) (x80 : Nat) (x81 : ClassId) (x82 : NI) (x83 x84 : Nat) (x85 x86 x87 : Value) (x88 : Nat) (x89 : ClassId) (x90 : NI) (x91 : Nat) (x92 : Value) (x93 : Int32) : va_W := [(x0, .inr (10, [.ref x1, x2, x3, .ref x4, x5, .ref x6, x7, x8, .ref x9, x10, .ref x11, x12, x13, x14, x15, .int x16, .int x17, x18, .int x19])), (x20, .inr (8, [.ref x21, .int x22, .int x23, .int x24, .int x25, .int x26, .int x27])), (x28, .inr (2, [.ref x29, .ref x30, .ref x31, .ref x32, .ref x33, .ref x34, .ref x35, x36, .int x37, .int x38, .int x39, .int x40])), (x41, .inl (x42, 36, .inl x43)), (x44, .inl (x45, 600, .inl x46)), (x47, .inl (x48, 8, .inl x49)), (x50, .inl (x51, 4, .inl x52)), (x53, .inl (x54, 8, .inl x55)), (x56, .inl (x57, 4, .inl x58)), (x59, .inl (x60, 6, .inl x61)), (x62, .inl (x63, 6, .inl x64)), (x65, .inr (4, [.ref x66, .ref x67, x68, x69, .int x70])), (x71, .inl (x72, 150, .inl x73)), (x74, .inl (x75, 150, .inl x76)), (x77, .inr (0, [.ref x78, .int x79])), (x80, .inl (x81, 8, .inl x82)), (x83, .inr (1, [.ref x84, x85, x86, x87])), (x88, .inl (x89, 64, .inl x90)), (x91, .inr (5, [x92, .int x93]))]
def qaXR (x0 x1 x2 x3 x4 : Nat) (x5 : Value) (x6 : Nat) (x7 x8 : Value) (x9 : Nat) (x10 : Value) (x11 : Nat) (x12 x13 x14 x15 : Value) (x16 x17 : Int32) (x18 : Value) (x19 : Int32) (x20 x21 : Nat) (x22 x23 x24 x25 x26 x27 : Int32) : va_W := [(x0, .inr (10, [.ref x1, .ref x2, .ref x3, .ref x4, x5, .ref x6, x7, x8, .ref x9, x10, .ref x11, x12, x13, x14, x15, .int x16, .int x17, x18, .int x19])), (x20, .inr (8, [.ref x21, .int x22, .int x23, .int x24, .int x25, .int x26, .int x27]))]
def qa54 (x0 x1 x2 x3 x4 x5 x6 x7 : Nat) (x8 : Value) (x9 x10 x11 x12 : Int32) (x13 : Nat) (x14 : ClassId) (x15 : NI) (x16 : Nat) (x17 : ClassId) (x18 : NI) (x19 : Nat) (x20 : ClassId) (x21 : NI) (x22 : Nat) (x23 : ClassId) (x24 : NI) (x25 : Nat) (x26 : ClassId) (x27 : NI) (x28 : Nat) (x29 : ClassId) (x30 : NI) (x31 : Nat) (x32 : ClassId) (x33 : NI) (x34 : Nat) (x35 : ClassId) (x36 : NI) (x37 x38 x39 : Nat) (x40 x41 : Value) (x42 : Int32) (x43 : Nat) (x44 : ClassId) (x45 : NI) (x46 : Nat) (x47 : ClassId) (x48 : NI) (x49 x50 : Nat) (x51 : Int32) (x52 : Nat) (x53 : ClassId) (x54 : NI) (x55 x56 : Nat) (x57 x58 x59 : Value) (x60 : Nat) (x61 : ClassId) (x62 : NI) (x63 : Nat) (x64 : Value) (x65 : Int32) : va_W := [(x0, .inr (2, [.ref x1, .ref x2, .ref x3, .ref x4, .ref x5, .ref x6, .ref x7, x8, .int x9, .int x10, .int x11, .int x12])), (x13, .inl (x14, 36, .inl x15)), (x16, .inl (x17, 600, .inl x18)), (x19, .inl (x20, 8, .inl x21)), (x22, .inl (x23, 4, .inl x24)), (x25, .inl (x26, 8, .inl x27)), (x28, .inl (x29, 4, .inl x30)), (x31, .inl (x32, 6, .inl x33)), (x34, .inl (x35, 6, .inl x36)), (x37, .inr (4, [.ref x38, .ref x39, x40, x41, .int x42])), (x43, .inl (x44, 150, .inl x45)), (x46, .inl (x47, 150, .inl x48)), (x49, .inr (0, [.ref x50, .int x51])), (x52, .inl (x53, 8, .inl x54)), (x55, .inr (1, [.ref x56, x57, x58, x59])), (x60, .inl (x61, 64, .inl x62)), (x63, .inr (5, [x64, .int x65]))]
def qa62 (x0 x1 x2 x3 x4 x5 x6 x7 : Nat) (x8 : Value) (x9 x10 x11 x12 : Int32) (x13 : Nat) (x14 : ClassId) (x15 : NI) (x16 x17 : Nat) (x18 x19 x20 x21 x22 x23 : Int32) (x24 : Nat) (x25 : ClassId) (x26 : NI) (x27 : Nat) (x28 : ClassId) (x29 : NI) (x30 : Nat) (x31 : ClassId) (x32 : NI) (x33 : Nat) (x34 : ClassId) (x35 : NI) (x36 : Nat) (x37 : ClassId) (x38 : NI) (x39 : Nat) (x40 : ClassId) (x41 : NI) (x42 : Nat) (x43 : ClassId) (x44 : NI) : va_W := [(x0, .inr (2, [.ref x1, .ref x2, .ref x3, .ref x4, .ref x5, .ref x6, .ref x7, x8, .int x9, .int x10, .int x11, .int x12])), (x13, .inl (x14, 36, .inl x15)), (x16, .inr (8, [.ref x17, .int x18, .int x19, .int x20, .int x21, .int x22, .int x23])), (x24, .inl (x25, 600, .inl x26)), (x27, .inl (x28, 8, .inl x29)), (x30, .inl (x31, 4, .inl x32)), (x33, .inl (x34, 8, .inl x35)), (x36, .inl (x37, 4, .inl x38)), (x39, .inl (x40, 6, .inl x41)), (x42, .inl (x43, 6, .inl x44))]
def qa7F (x0 x1 : Nat) (x2 : Int32) (x3 : Nat) (x4 : ClassId) (x5 : NI) : va_W := [(x0, .inr (0, [.ref x1, .int x2])), (x3, .inl (x4, 8, .inl x5))]
def qbgC (x0 x1 : Nat) (x2 x3 x4 : Value) (x5 : Nat) (x6 : ClassId) (x7 : NI) (x8 x9 x10 x11 x12 x13 x14 x15 : Nat) (x16 : Value) (x17 x18 x19 x20 : Int32) (x21 : Nat) (x22 : ClassId) (x23 : NI) (x24 : Nat) (x25 : ClassId) (x26 : NI) (x27 : Nat) (x28 : ClassId) (x29 : NI) : va_W := [(x0, .inr (1, [.ref x1, x2, x3, x4])), (x5, .inl (x6, 64, .inl x7)), (x8, .inr (2, [.ref x9, .ref x10, .ref x11, .ref x12, .ref x13, .ref x14, .ref x15, x16, .int x17, .int x18, .int x19, .int x20])), (x21, .inl (x22, 36, .inl x23)), (x24, .inl (x25, 6, .inl x26)), (x27, .inl (x28, 6, .inl x29))]
def qabt (x0 x1 x2 x3 x4 : Nat) (x5 : Value) (x6 : Nat) (x7 x8 : Value) (x9 : Nat) (x10 : Value) (x11 : Nat) (x12 x13 x14 x15 : Value) (x16 x17 : Int32) (x18 : Value) (x19 : Int32) (x20 x21 : Nat) (x22 x23 x24 x25 x26 x27 : Int32) (x28 x29 x30 x31 x32 x33 x34 x35 : Nat) (x36 : Value) (x37 x38 x39 x40 : Int32) (x41 : Nat) (x42 : ClassId) (x43 : NI) (x44 : Nat) (x45 : ClassId) (x46 : NI) (x47 : Nat) (x48 : ClassId) (x49 : NI) (x50 : Nat) (x51 : ClassId) (x52 : NI) (x53 : Nat) (x54 : ClassId) (x55 : NI) (x56 : Nat) (x57 : ClassId) (x58 : NI) (x59 : Nat) (x60 : ClassId) (x61 : NI) (x62 : Nat) (x63 : ClassId) (x64 : NI) (x65 x66 x67 : Nat) (x68 x69 : Value) (x70 : Int32) (x71 : Nat) (x72 : ClassId) (x73 : NI) (x74 : Nat) (x75 : ClassId) (x76 : NI) (x77 x78 : Nat) (x79 : Int32) (x80 : Nat) (x81 : ClassId) (x82 : NI) (x83 x84 : Nat) (x85 : Value) (x86 x87 x88 : Nat) (x89 : ClassId) (x90 : NI) (x91 : Nat) (x92 : Value) (x93 : Int32) : va_W := [(x0, .inr (10, [.ref x1, .ref x2, .ref x3, .ref x4, x5, .ref x6, x7, x8, .ref x9, x10, .ref x11, x12, x13, x14, x15, .int x16, .int x17, x18, .int x19])), (x20, .inr (8, [.ref x21, .int x22, .int x23, .int x24, .int x25, .int x26, .int x27])), (x28, .inr (2, [.ref x29, .ref x30, .ref x31, .ref x32, .ref x33, .ref x34, .ref x35, x36, .int x37, .int x38, .int x39, .int x40])), (x41, .inl (x42, 36, .inl x43)), (x44, .inl (x45, 600, .inl x46)), (x47, .inl (x48, 8, .inl x49)), (x50, .inl (x51, 4, .inl x52)), (x53, .inl (x54, 8, .inl x55)), (x56, .inl (x57, 4, .inl x58)), (x59, .inl (x60, 6, .inl x61)), (x62, .inl (x63, 6, .inl x64)), (x65, .inr (4, [.ref x66, .ref x67, x68, x69, .int x70])), (x71, .inl (x72, 150, .inl x73)), (x74, .inl (x75, 150, .inl x76)), (x77, .inr (0, [.ref x78, .int x79])), (x80, .inl (x81, 8, .inl x82)), (x83, .inr (1, [.ref x84, x85, .ref x86, .ref x87])), (x88, .inl (x89, 64, .inl x90)), (x91, .inr (5, [x92, .int x93]))]
def qali (x0 x1 x2 x3 x4 : Nat) (x5 : Value) (x6 : Nat) (x7 x8 : Value) (x9 : Nat) (x10 : Value) (x11 : Nat) (x12 x13 x14 x15 : Value) (x16 x17 : Int32) (x18 : Value) (x19 : Int32) (x20 x21 : Nat) (x22 x23 x24 x25 x26 x27 : Int32) (x28 x29 x30 x31 x32 x33 x34 x35 : Nat) (x36 : Value) (x37 x38 x39 x40 : Int32) (x41 : Nat) (x42 : ClassId) (x43 : NI) (x44 : Nat) (x45 : ClassId) (x46 : NI) (x47 : Nat) (x48 : ClassId) (x49 : NI) (x50 : Nat) (x51 : ClassId) (x52 : NI) (x53 : Nat) (x54 : ClassId) (x55 : NI) (x56 : Nat) (x57 : ClassId) (x58 : NI) (x59 : Nat) (x60 : ClassId) (x61 : NI) (x62 : Nat) (x63 : ClassId) (x64 : NI) (x65 x66 x67 : Nat) (x68 x69 : Value) (x70 : Int32) (x71 : Nat) (x72 : ClassId) (x73 : NI) (x74 : Nat) (x75 : ClassId) (x76 : NI) (x77 x78 : Nat) (x79 : Int32) (x80 : Nat) (x81 : ClassId) (x82 : NI) (x83 x84 : Nat) (x85 x86 x87 : Value) (x88 : Nat) (x89 : ClassId) (x90 : NI) (x91 : Nat) (x92 : Value) (x93 : Int32) (x94 : Nat) (x95 : ClassId) (x96 : Nat) (x97 : Nat → Int64) : va_W := [(x0, .inr (10, [.ref x1, .ref x2, .ref x3, .ref x4, x5, .ref x6, x7, x8, .ref x9, x10, .ref x11, x12, x13, x14, x15, .int x16, .int x17, x18, .int x19])), (x20, .inr (8, [.ref x21, .int x22, .int x23, .int x24, .int x25, .int x26, .int x27])), (x28, .inr (2, [.ref x29, .ref x30, .ref x31, .ref x32, .ref x33, .ref x34, .ref x35, x36, .int x37, .int x38, .int x39, .int x40])), (x41, .inl (x42, 36, .inl x43)), (x44, .inl (x45, 600, .inl x46)), (x47, .inl (x48, 8, .inl x49)), (x50, .inl (x51, 4, .inl x52)), (x53, .inl (x54, 8, .inl x55)), (x56, .inl (x57, 4, .inl x58)), (x59, .inl (x60, 6, .inl x61)), (x62, .inl (x63, 6, .inl x64)), (x65, .inr (4, [.ref x66, .ref x67, x68, x69, .int x70])), (x71, .inl (x72, 150, .inl x73)), (x74, .inl (x75, 150, .inl x76)), (x77, .inr (0, [.ref x78, .int x79])), (x80, .inl (x81, 8, .inl x82)), (x83, .inr (1, [.ref x84, x85, x86, x87])), (x88, .inl (x89, 64, .inl x90)), (x91, .inr (5, [x92, .int x93])), (x94, .inl (x95, x96, .inr (.inl x97)))]
def qaiY (x0 x1 : Nat) (x2 x3 : Value) (x4 : Nat) (x5 : Value) (x6 : Nat) (x7 x8 : Value) (x9 : Nat) (x10 : Value) (x11 : Nat) (x12 x13 x14 x15 : Value) (x16 x17 : Int32) (x18 : Value) (x19 : Int32) (x20 x21 : Nat) (x22 x23 x24 x25 x26 x27 : Int32) (x28 x29 x30 x31 x32 x33 x34 x35 : Nat) (x36 : Value) (x37 x38 x39 x40 : Int32) (x41 : Nat) (x42 : ClassId) (x43 : NI) (x44 : Nat) (x45 : ClassId) (x46 : NI) (x47 : Nat) (x48 : ClassId) (x49 : NI) (x50 : Nat) (x51 : ClassId) (x52 : NI) (x53 : Nat) (x54 : ClassId) (x55 : NI) (x56 : Nat) (x57 : ClassId) (x58 : NI) (x59 : Nat) (x60 : ClassId) (x61 : NI) (x62 : Nat) (x63 : ClassId) (x64 : NI) (x65 x66 x67 : Nat) (x68 x69 : Value) (x70 : Int32) (x71 : Nat) (x72 : ClassId) (x73 : NI) (x74 : Nat) (x75 : ClassId) (x76 : NI) (x77 x78 : Nat) (x79 : Int32) (x80 : Nat) (x81 : ClassId) (x82 : NI) (x83 x84 : Nat) (x85 x86 x87 : Value) (x88 : Nat) (x89 : ClassId) (x90 : NI) (x91 : Nat) (x92 : Value) (x93 : Int32) (x94 : Nat) (x95 : ClassId) (x96 : Nat) (x97 : Nat → Int64) : va_W := [(x0, .inr (10, [.ref x1, x2, x3, .ref x4, x5, .ref x6, x7, x8, .ref x9, x10, .ref x11, x12, x13, x14, x15, .int x16, .int x17, x18, .int x19])), (x20, .inr (8, [.ref x21, .int x22, .int x23, .int x24, .int x25, .int x26, .int x27])), (x28, .inr (2, [.ref x29, .ref x30, .ref x31, .ref x32, .ref x33, .ref x34, .ref x35, x36, .int x37, .int x38, .int x39, .int x40])), (x41, .inl (x42, 36, .inl x43)), (x44, .inl (x45, 600, .inl x46)), (x47, .inl (x48, 8, .inl x49)), (x50, .inl (x51, 4, .inl x52)), (x53, .inl (x54, 8, .inl x55)), (x56, .inl (x57, 4, .inl x58)), (x59, .inl (x60, 6, .inl x61)), (x62, .inl (x63, 6, .inl x64)), (x65, .inr (4, [.ref x66, .ref x67, x68, x69, .int x70])), (x71, .inl (x72, 150, .inl x73)), (x74, .inl (x75, 150, .inl x76)), (x77, .inr (0, [.ref x78, .int x79])), (x80, .inl (x81, 8, .inl x82)), (x83, .inr (1, [.ref x84, x85, x86, x87])), (x88, .inl (x89, 64, .inl x90)), (x91, .inr (5, [x92, .int x93])), (x94, .inl (x95, x96, .inr (.inl x97)))]
def qsi (x0 x1 x2 x3 x4 x5 : Nat) (x6 : Value) (x7 x8 x9 x10 : Int32) (x11 x12 : Value) (x13 x14 : Nat) (x15 x16 x17 : Int32) (x18 : Value) (x19 x20 : Int32) (x21 : Nat) (x22 : ClassId) (x23 : NI) (x24 : Nat) (x25 : ClassId) (x26 : NI) (x27 : Nat) (x28 : ClassId) (x29 : NI) (x30 : Nat) (x31 : ClassId) (x32 : NI) (x33 : Nat) (x34 : ClassId) (x35 : NI) (x36 : Nat) (x37 : ClassId) (x38 : NI) : va_W := [(x0, .inr (9, [.ref x1, .ref x2, .ref x3, .ref x4, .ref x5, x6, .int x7, .int x8, .int x9, .int x10, x11, x12])), (x13, .inr (8, [.ref x14, .int x15, .int x16, .int x17, x18, .int x19, .int x20])), (x21, .inl (x22, 600, .inl x23)), (x24, .inl (x25, 50, .inl x26)), (x27, .inl (x28, 50, .inl x29)), (x30, .inl (x31, 50, .inl x32)), (x33, .inl (x34, 50, .inl x35)), (x36, .inl (x37, 6, .inl x38))]
def qGN (x0 x1 x2 x3 x4 x5 : Nat) (x6 : Value) (x7 x8 x9 x10 : Int32) (x11 x12 : Value) (x13 : Nat) (x14 : ClassId) (x15 : NI) (x16 : Nat) (x17 : ClassId) (x18 : NI) (x19 : Nat) (x20 : ClassId) (x21 : NI) (x22 : Nat) (x23 : ClassId) (x24 : NI) (x25 : Nat) (x26 : ClassId) (x27 : NI) : va_W := [(x0, .inr (9, [.ref x1, .ref x2, .ref x3, .ref x4, .ref x5, x6, .int x7, .int x8, .int x9, .int x10, x11, x12])), (x13, .inl (x14, 50, .inl x15)), (x16, .inl (x17, 50, .inl x18)), (x19, .inl (x20, 50, .inl x21)), (x22, .inl (x23, 50, .inl x24)), (x25, .inl (x26, 6, .inl x27))]
def q3b (x0 x1 x2 x3 x4 x5 : Nat) (x6 : Value) (x7 x8 x9 x10 : Int32) (x11 x12 : Value) (x13 : Nat) (x14 : ClassId) (x15 : NI) (x16 : Nat) (x17 : ClassId) (x18 : NI) (x19 : Nat) (x20 : ClassId) (x21 : NI) (x22 : Nat) (x23 : ClassId) (x24 : NI) : va_W := [(x0, .inr (9, [.ref x1, .ref x2, .ref x3, .ref x4, .ref x5, x6, .int x7, .int x8, .int x9, .int x10, x11, x12])), (x13, .inl (x14, 50, .inl x15)), (x16, .inl (x17, 50, .inl x18)), (x19, .inl (x20, 50, .inl x21)), (x22, .inl (x23, 50, .inl x24))]
def qaQR (x0 x1 : Nat) (x2 x3 x4 : Int32) (x5 : Value) (x6 x7 : Int32) (x8 : Nat) (x9 : ClassId) (x10 : NI) (x11 : Nat) (x12 : ClassId) (x13 : NI) : va_W := [(x0, .inr (8, [.ref x1, .int x2, .int x3, .int x4, x5, .int x6, .int x7])), (x8, .inl (x9, 600, .inl x10)), (x11, .inl (x12, 6, .inl x13))]
def qa5z (x0 x1 x2 x3 x4 x5 : Nat) (x6 : Value) (x7 x8 x9 x10 : Int32) (x11 x12 : Value) (x13 x14 : Nat) (x15 x16 x17 : Int32) (x18 : Value) (x19 x20 : Int32) (x21 : Nat) (x22 : ClassId) (x23 : NI) (x24 : Nat) (x25 : ClassId) (x26 : NI) (x27 : Nat) (x28 : ClassId) (x29 : NI) (x30 : Nat) (x31 : ClassId) (x32 : NI) (x33 : Nat) (x34 : ClassId) (x35 : NI) (x36 : Nat) (x37 : ClassId) (x38 : NI) : va_W := [(x0, .inr (9, [.ref x1, .ref x2, .ref x3, .ref x4, .ref x5, x6, .int x7, .int x8, .int x9, .int x10, x11, x12])), (x13, .inr (8, [.ref x14, .int x15, .int x16, .int x17, x18, .int x19, .int x20])), (x21, .inl (x22, 600, .inl x23)), (x24, .inl (x25, 6, .inl x26)), (x27, .inl (x28, 50, .inl x29)), (x30, .inl (x31, 50, .inl x32)), (x33, .inl (x34, 50, .inl x35)), (x36, .inl (x37, 50, .inl x38))]
theorem q9V : ∀ w ∈ u_ws RX4 TX4 5, w ∈ wsX4_readFrom := uiM qCO euX4 (by decide +kernel)
theorem q6w : (.fieldLink RX4 27 "MarchHares$Law" "length" "I" : Cond) ∈ wsX4_readFrom := qCO 208 (by decide +kernel)
set_option maxHeartbeats 4000000 in
set_option maxRecDepth 100000 in
theorem qare (l : Launch) (dC : Nat → ClassId) (dI : Nat → Nat → Nat) (cyB cyI cyJ cyP : ClassId) (a0 a1 jbF jbU jcJ sz : Nat) (jhV jaE jcI : Value) (jb3 : Int32) (jcq : NI) (jb7 jhR jeF jcU jbM : Int32) (jdC jfV : NI) {Q : Int32 → Int32 → Int32 → Int32 → Int32 → NI → NI → Prop} (hw : qZx jb3 jcq jb7 jhR jeF jcU jbM jdC jfV Q) : Met l yX4_readFrom wsX4_readFrom ({ frames := 33, cells := 0, slots := 0, locals := 757 }) (va_Pc [.ref a0, .ref a1] (cPs (zE) l (dC, dI) (kT cyB cyI cyJ cyP) (qVy a0 jbU jcJ jhV jaE jb7 a1 jbF jb3 jhR jeF jcI jcU jbM jbF cyB jcq jbU cyI jdC jcJ cyI jfV) sz)) (va_Qv (fun (u : Int32 × Int32 × Int32 × Int32 × Int32 × NI × NI) => Q u.1 u.2.1 u.2.2.1 u.2.2.2.1 u.2.2.2.2.1 u.2.2.2.2.2.1 u.2.2.2.2.2.2) (cB (dC, dI) (kT cyB cyI cyJ cyP) (va_A (qVy a0 jbU jcJ jhV jaE jb7 a1 jbF jb3 jhR jeF jcI jcU jbM jbF cyB jcq jbU cyI jdC jcJ cyI jfV) sz) (fun u : Int32 × Int32 × Int32 × Int32 × Int32 × NI × NI => ((qVy a0 jbU jcJ jhV jaE u.1 a1 jbF jb3 u.2.1 u.2.2.1 jcI u.2.2.2.1 u.2.2.2.2.1 jbF cyB jcq jbU cyI u.2.2.2.2.2.1 jcJ cyI u.2.2.2.2.2.2) : va_W))) (va_A (qVy a0 jbU jcJ jhV jaE jb7 a1 jbF jb3 jhR jeF jcI jcU jbM jbF cyB jcq jbU cyI jdC jcJ cyI jfV) sz)) 0 0 (va_A (qVy a0 jbU jcJ jhV jaE jb7 a1 jbF jb3 jhR jeF jcI jcU jbM jbF cyB jcq jbU cyI jdC jcJ cyI jfV) sz) := by
  refine Met.ofW (cc := cX4_readFrom) (maxL := 2) (ret := none) (by decide) rfl ?_
  intro p e s m args below meth c s₁ B hml hv
  obtain ⟨rfl, ⟨hsz, hP, hK, hD0, hNw, hXl, hXu, hXn, hXt⟩, hE0⟩ := hv
  have hx := B.exec
  have hb := B.bytes
  have hr := B.returns
  have hts := atoms_spec (ws := wsX4_readFrom) B.pre
  have hown : s.vm.findClass RX4 = some m.cls := findClass_of_methodNamed B.named
  have hlocks := B.notSynchronized
  subst hsz
  have hD := hD0.self (sz := s.heap.size)
  generalize hAe : va_A (qVy a0 jbU jcJ jhV jaE jb7 a1 jbF jb3 jhR jeF jcI jcU jbM jbF cyB jcq jbU cyI jdC jcJ cyI jfV) s.heap.size = A at hD hXu hXn hE0 ⊢
  have hA : ∀ q : Nat, s.heap.size ≤ q → A q := fun q h => by rw [← hAe]; exact Or.inr h
  have hS : va_S A s.heap s.heap [] := va_S.rf
  have hP : va_P (dC, dI) vwCl (qVy a0 jbU jcJ jhV jaE jb7 a1 jbF jb3 jhR jeF jcI jcU jbM jbF cyB jcq jbU cyI jdC jcJ cyI jfV) s.heap := hP
  have hl := lv_entry ([.ref a0, .ref a1]) (n := 2) (nbq rfl)
  rw [lg_entry_eq]
  generalize (lg_sl ([.ref a0, .ref a1]) ++ List.replicate (2 - (lg_sl ([.ref a0, .ref a1])).length) Slot.unset).toArray = ls at hl ⊢
  have hl : lv_has ls 2 [(0, .ref a0), (1, .ref a1)] := hl
  have hY : cfY l s A := ⟨hXl, hXu, hXn, hXt⟩
  have C0 : cfx p s m _ meth c cX4_readFrom none wsX4_readFrom RX4 2 A (dC, dI) (kT cyB cyI cyJ cyP) ∧ cfY l s A ∧ zE A s s.heap := ⟨⟨hx, hb, hr, hts, hown, hlocks, hml, hA, hK, hNw⟩, hY, hE0⟩
  have hE := hE0
  clear hAe
  obtain ⟨H, hH⟩ : ∃ H, H = s.heap := ⟨_, rfl⟩
  rw [← hH] at hP ⊢
  have hS : va_S A s.heap H [] := by rw [hH]; exact va_S.rf
  have hS := hS
  refine lv_aload_n hx hb (qaa qpv 0 rfl) rfl (lv_at hl 0 rfl) ?_
  refine lv_iconst (v := 0) hx hb (qaa qpv 1 rfl) (by decide) ?_
  refine va_put (D := (dC, dI)) (ci := 4) (v := .int 0) (ty := .int) (C := RX4) (T := TX4) (N := 5) hx hb hts q9V tyX4 tyX4_ok nmX4 hown hK hP hD hS 0 rfl rfl 4 (by decide) (hts _ q6w) (fun _ h9 => h9) rfl (by decide +kernel) rfl rfl (nbq rfl) (qaa qpv 2 rfl) (fun H locs hP hD hS => ?_)
  have hP : va_P (dC, dI) vwCl (qVy a0 jbU jcJ jhV jaE 0 a1 jbF jb3 jhR jeF jcI jcU jbM jbF cyB jcq jbU cyI jdC jcJ cyI jfV) H := hP
  have hD : va_D A (qVy a0 jbU jcJ jhV jaE 0 a1 jbF jb3 jhR jeF jcI jcU jbM jbF cyB jcq jbU cyI jdC jcJ cyI jfV) := hD
  refine lv_aload_n hx hb (qaa qpv 3 rfl) rfl (lv_at hl 0 rfl) ?_
  refine lv_aload_n hx hb (qaa qpv 4 rfl) rfl (lv_at hl 1 rfl) ?_
  refine lv_iconst (v := 0) hx hb (qaa qpv 5 rfl) (by decide) ?_
  obtain ⟨hCc, hPc, hDc, hFc⟩ := qac (ws' := (qVy a0 jbU jcJ jhV jaE 0 a1 jbF jb3 jhR jeF jcI jcU jbM jbF cyB jcq jbU cyI jdC jcJ cyI jfV)) hP hD hS hA [0, 1, 2, 3, 4] (by decide +kernel) rfl
  refine va_callv (va_runV (As := [.ref a1, .int 0]) (rest := []) ⟨hx, hb, hml, hown, hts⟩ (qaer l dC dI cyB cyI cyJ cyP a0 a1 jbF jbU jcJ H.size (jhV) (jaE) (jcI) jb3 jcq jhR jeF jcU jbM jdC jfV 0 0 hw) (cwV 2 hts gX4_readFrom_X4_readSum rfl rfl rfl (by decide +kernel) ⟨nbq rfl, nbq rfl⟩) ⟨qat qsL, va_recv (q := (RX4, TX4, 5)) hK hPc (ci := 4) (q0 := 0) rfl rfl, qbg qsL hPc hK hDc hNw hY hE hS hFc⟩ rfl rfl hl.1 rfl (lv_room (nbq rfl)) (qaa qpv 6 rfl) ⟨nbq rfl, nbq rfl⟩) hS (fun q _ h => hFc q h) hFc (fun u t H1 locs ht hvm hw hB hz1 hk1 hS => ?_)
  obtain ⟨x1, x2, x3, x4, f5, f6, x7⟩ := u
  obtain ⟨hP1, hK1, hD1⟩ := hB
  rw [ht] at hP1
  obtain ⟨hP, hD⟩ := qah (wr := []) (w1 := (qVy a0 jbU jcJ jhV jaE x7 a1 jbF jb3 x1 x2 jcI x3 x4 jbF cyB jcq jbU cyI f5 jcJ cyI f6)) (wn := (qVy a0 jbU jcJ jhV jaE x7 a1 jbF jb3 x1 x2 jcI x3 x4 jbF cyB jcq jbU cyI f5 jcJ cyI f6)) hP hD [0, 1, 2, 3, 4] [] hCc rfl (by decide +kernel) (by decide +kernel) rfl hk1 hFc hP1 hD1
  generalize H1 = H at hP hS ⊢
  refine lv_aload_n hx hb (qaa qpv 7 rfl) rfl (lv_at hl 1 rfl) ?_
  obtain ⟨hCc, hPc, hDc, hFc⟩ := qac (ws' := (qqX a1 jbF jb3 x1 x2 jcI x3 x4 jbF cyB jcq)) hP hD hS hA [1, 2] (by decide +kernel) rfl
  refine va_callv (va_runV (As := []) (rest := []) ⟨hx, hb, hml, hown, hts⟩ (qaFR l dC dI cyB cyI cyJ cyP a1 jbF H.size (.int x2) (jcI) jb3 jcq x1 x3 x4 hw) (cwV 0 hts gX4_readFrom_X8_needsEnd rfl rfl rfl (by decide +kernel) ⟨nbq rfl, nbq rfl⟩) ⟨qab, va_recv (q := (RX8, TX8, 7)) hK hPc (ci := 8) (q0 := 0) rfl rfl, qae hPc hK hDc hNw⟩ rfl rfl hl.1 rfl (lv_room (nbq rfl)) (qaa qpv 8 rfl) ⟨nbq rfl, nbq rfl⟩) hS (fun q _ h => hFc q h) hFc (fun u t H1 locs ht hvm hw hB hz1 hk1 hS => ?_)
  obtain ⟨x8, x9, x10⟩ := u
  obtain ⟨hP1, hK1, hD1⟩ := hB
  rw [ht] at hP1
  obtain ⟨hP, hD⟩ := qad (wr := (qa4H a0 jbU jcJ jhV jaE x7 jbU cyI f5 jcJ cyI f6)) (w1 := (qqX a1 jbF jb3 x8 x2 jcI x9 x10 jbF cyB jcq)) (wn := (qVy a0 jbU jcJ jhV jaE x7 a1 jbF jb3 x8 x2 jcI x9 x10 jbF cyB jcq jbU cyI f5 jcJ cyI f6)) hP hD [1, 2] [0, 3, 4] [0, 3, 4, 1, 2] hCc rfl (by decide +kernel) (by decide +kernel) (by decide +kernel) rfl hk1 hFc hP1 hD1
  generalize H1 = H at hP hS ⊢
  exact ((W.vret hx hb hr (fun t ht hW => ⟨⟨(x7, x8, x2, x9, x10, f5, f6), rfl, hw, by rw [ht]; exact hP, va_K.moved hW.alike hK, hD⟩, hS.F ht⟩) hS.2.2 (qaa qpv 9 rfl)))
theorem qpq : ∀ w ∈ u_ws RX10 TX10 19, w ∈ wsX10_law := uiM qvZ qyE (by decide +kernel)
theorem qaBz : ∀ w ∈ u_ws RX8 TX8 7, w ∈ wsX10_law := uiM qvZ euX8 (by decide +kernel)
theorem qMA : (.fieldLink RX10 10 "MarchHares" "tape" "LMarchHares$Tape;" : Cond) ∈ wsX10_law := qvZ 16 (by decide +kernel)
theorem qalt : (.fieldLink RX10 120 "MarchHares$Tape" "fault" "I" : Cond) ∈ wsX10_law := qvZ 640 (by decide +kernel)
theorem qMn : (.fieldLink RX10 29 "MarchHares" "rule" "LMarchHares$Law;" : Cond) ∈ wsX10_law := qvZ 65 (by decide +kernel)
theorem qMv : (.fieldLink RX10 33 "MarchHares" "spareRule" "LMarchHares$Law;" : Cond) ∈ wsX10_law := qvZ 66 (by decide +kernel)
theorem qarf : (.fieldLink RX10 58 "MarchHares" "now" "LMarchHares$Days;" : Cond) ∈ wsX10_law := qvZ 79 (by decide +kernel)
set_option maxHeartbeats 4000000 in
set_option maxRecDepth 100000 in
theorem qaVN (l : Launch) (dC : Nat → ClassId) (dI : Nat → Nat → Nat) (cyB cyI cyJ cyP : ClassId) (a0 jaW jiN jfZ jlv jln jb6 jaT sz : Nat) (jfP ja1 jbV ja3 jbH jbO jaq jac jbI jbl jbn jba jaa jbA jmR jmM joq jbr jhD : Value) (ji4 : NI) (jbz jk4 jlW jll jj0 jlm jjE jnz : Int32) (jnJ jnA : NI) (jmF : Value) (p1 : Int32) {E : String → Int32 → Int32 → Int32 → Int32 → Int32 → Int32 → Int32 → Int32 → NI → NI → Value → Value → Value → Prop} {Q : Int32 → Int32 → Int32 → Int32 → Int32 → Int32 → Int32 → Int32 → Int32 → NI → NI → Value → Value → Value → Prop} (hw : q1f jb6 jiN ji4 jbz jk4 jlW jll jj0 jlm jjE jnz jnJ jnA (.ref jb6) (.ref jiN) jmF p1 E Q) : vx_Met l yX10_law wsX10_law ({ frames := 34, cells := 1, slots := 6, locals := 778 }) (va_Pc [.ref a0, .int p1] (cPs (zE) l (dC, dI) (kT cyB cyI cyJ cyP) (qK5 a0 jaW jfP ja1 jb6 jiN jbV ja3 jbH jaT jbO jaq jac jbI jbl jbn jba jaa jbA jbz jaW jfZ jk4 jlW jll jj0 jlm jjE jiN jlv jln jmR jmM jnz jfZ cyB ji4 jlv cyI jnJ jln cyI jnA jaT joq jbr jhD jmF) sz)) (va_Qi (fun (r : Int32) (u : Int32 × Int32 × Int32 × Int32 × Int32 × Int32 × Int32 × Int32 × NI × NI × Value × Value × Value) => Q r u.1 u.2.1 u.2.2.1 u.2.2.2.1 u.2.2.2.2.1 u.2.2.2.2.2.1 u.2.2.2.2.2.2.1 u.2.2.2.2.2.2.2.1 u.2.2.2.2.2.2.2.2.1 u.2.2.2.2.2.2.2.2.2.1 u.2.2.2.2.2.2.2.2.2.2.1 u.2.2.2.2.2.2.2.2.2.2.2.1 u.2.2.2.2.2.2.2.2.2.2.2.2) (cB (dC, dI) (kT cyB cyI cyJ cyP) (va_A (qK5 a0 jaW jfP ja1 jb6 jiN jbV ja3 jbH jaT jbO jaq jac jbI jbl jbn jba jaa jbA jbz jaW jfZ jk4 jlW jll jj0 jlm jjE jiN jlv jln jmR jmM jnz jfZ cyB ji4 jlv cyI jnJ jln cyI jnA jaT joq jbr jhD jmF) sz) (fun u : Int32 × Int32 × Int32 × Int32 × Int32 × Int32 × Int32 × Int32 × NI × NI × Value × Value × Value => ((qa0r a0 jaW jfP ja1 u.2.2.2.2.2.2.2.2.2.2.1 u.2.2.2.2.2.2.2.2.2.2.2.1 jbV ja3 jbH jaT jbO jaq jac jbI jbl jbn jba jaa jbA u.1 jaW jfZ u.2.1 u.2.2.1 u.2.2.2.1 u.2.2.2.2.1 u.2.2.2.2.2.1 u.2.2.2.2.2.2.1 jiN jlv jln jmR jmM u.2.2.2.2.2.2.2.1 jfZ cyB ji4 jlv cyI u.2.2.2.2.2.2.2.2.1 jln cyI u.2.2.2.2.2.2.2.2.2.1 jaT joq jbr jhD u.2.2.2.2.2.2.2.2.2.2.2.2) : va_W))) (va_A (qK5 a0 jaW jfP ja1 jb6 jiN jbV ja3 jbH jaT jbO jaq jac jbI jbl jbn jba jaa jbA jbz jaW jfZ jk4 jlW jll jj0 jlm jjE jiN jlv jln jmR jmM jnz jfZ cyB ji4 jlv cyI jnJ jln cyI jnA jaT joq jbr jhD jmF) sz)) (vx_X (fun _ => True) (fun (en : String) (u : Int32 × Int32 × Int32 × Int32 × Int32 × Int32 × Int32 × Int32 × NI × NI × Value × Value × Value) (t : State) => E en u.1 u.2.1 u.2.2.1 u.2.2.2.1 u.2.2.2.2.1 u.2.2.2.2.2.1 u.2.2.2.2.2.2.1 u.2.2.2.2.2.2.2.1 u.2.2.2.2.2.2.2.2.1 u.2.2.2.2.2.2.2.2.2.1 u.2.2.2.2.2.2.2.2.2.2.1 u.2.2.2.2.2.2.2.2.2.2.2.1 u.2.2.2.2.2.2.2.2.2.2.2.2 ∧ cB (dC, dI) (kT cyB cyI cyJ cyP) (va_A (qK5 a0 jaW jfP ja1 jb6 jiN jbV ja3 jbH jaT jbO jaq jac jbI jbl jbn jba jaa jbA jbz jaW jfZ jk4 jlW jll jj0 jlm jjE jiN jlv jln jmR jmM jnz jfZ cyB ji4 jlv cyI jnJ jln cyI jnA jaT joq jbr jhD jmF) sz) (fun u : Int32 × Int32 × Int32 × Int32 × Int32 × Int32 × Int32 × Int32 × NI × NI × Value × Value × Value => ((qa0r a0 jaW jfP ja1 u.2.2.2.2.2.2.2.2.2.2.1 u.2.2.2.2.2.2.2.2.2.2.2.1 jbV ja3 jbH jaT jbO jaq jac jbI jbl jbn jba jaa jbA u.1 jaW jfZ u.2.1 u.2.2.1 u.2.2.2.1 u.2.2.2.2.1 u.2.2.2.2.2.1 u.2.2.2.2.2.2.1 jiN jlv jln jmR jmM u.2.2.2.2.2.2.2.1 jfZ cyB ji4 jlv cyI u.2.2.2.2.2.2.2.2.1 jln cyI u.2.2.2.2.2.2.2.2.2.1 jaT joq jbr jhD u.2.2.2.2.2.2.2.2.2.2.2.2) : va_W)) u t) (va_A (qK5 a0 jaW jfP ja1 jb6 jiN jbV ja3 jbH jaT jbO jaq jac jbI jbl jbn jba jaa jbA jbz jaW jfZ jk4 jlW jll jj0 jlm jjE jiN jlv jln jmR jmM jnz jfZ cyB ji4 jlv cyI jnJ jln cyI jnA jaT joq jbr jhD jmF) sz)) 1 6 (va_A (qK5 a0 jaW jfP ja1 jb6 jiN jbV ja3 jbH jaT jbO jaq jac jbI jbl jbn jba jaa jbA jbz jaW jfZ jk4 jlW jll jj0 jlm jjE jiN jlv jln jmR jmM jnz jfZ cyB ji4 jlv cyI jnJ jln cyI jnA jaT joq jbr jhD jmF) sz) := by
  refine vx_ofW (cc := cX10_law) (maxL := 3) (ret := (some .int)) (by decide) rfl ?_
  intro p e s m args below meth c s₁ B hml hnt hv
  obtain ⟨rfl, ⟨hsz, hP, hK, hD0, hNw, hXl, hXu, hXn, hXt⟩, hE0⟩ := hv
  have hx := B.exec
  have hb := B.bytes
  have hr := B.returns
  have hts := atoms_spec (ws := wsX10_law) B.pre
  have hown : s.vm.findClass RX10 = some m.cls := findClass_of_methodNamed B.named
  have hlocks := B.notSynchronized
  subst hsz
  have hD := hD0.self (sz := s.heap.size)
  generalize hAe : va_A (qK5 a0 jaW jfP ja1 jb6 jiN jbV ja3 jbH jaT jbO jaq jac jbI jbl jbn jba jaa jbA jbz jaW jfZ jk4 jlW jll jj0 jlm jjE jiN jlv jln jmR jmM jnz jfZ cyB ji4 jlv cyI jnJ jln cyI jnA jaT joq jbr jhD jmF) s.heap.size = A at hD hXu hXn hE0 ⊢
  have hA : ∀ q : Nat, s.heap.size ≤ q → A q := fun q h => by rw [← hAe]; exact Or.inr h
  have hS : va_S A s.heap s.heap [] := va_S.rf
  have hP : va_P (dC, dI) vwCl (qK5 a0 jaW jfP ja1 jb6 jiN jbV ja3 jbH jaT jbO jaq jac jbI jbl jbn jba jaa jbA jbz jaW jfZ jk4 jlW jll jj0 jlm jjE jiN jlv jln jmR jmM jnz jfZ cyB ji4 jlv cyI jnJ jln cyI jnA jaT joq jbr jhD jmF) s.heap := hP
  have hl := lv_entry ([.ref a0, .int p1]) (n := 3) (nbq rfl)
  rw [lg_entry_eq]
  generalize (lg_sl ([.ref a0, .int p1]) ++ List.replicate (3 - (lg_sl ([.ref a0, .int p1])).length) Slot.unset).toArray = ls at hl ⊢
  have hl : lv_has ls 3 [(0, .ref a0), (1, .int p1)] := hl
  have hY : cfY l s A := ⟨hXl, hXu, hXn, hXt⟩
  have hE := hE0
  have hXs : cfX l s c A := ⟨hnt, hY⟩
  have C0 : cfx p s m _ meth c cX10_law (some .int) wsX10_law RX10 3 A (dC, dI) (kT cyB cyI cyJ cyP) ∧ cfX l s c A := ⟨⟨hx, hb, hr, hts, hown, hlocks, hml, hA, hK, hNw⟩, hXs⟩
  clear hAe
  obtain ⟨H, hH⟩ : ∃ H, H = s.heap := ⟨_, rfl⟩
  rw [← hH] at hP ⊢
  have hS : va_S A s.heap H [] := by rw [hH]; exact va_S.rf
  have hS := hS
  refine lv_aload_n hx hb (qaa qom 0 rfl) rfl (lv_at hl 0 rfl) ?_
  refine lv_iload_n hx hb (qaa qom 1 rfl) rfl (lv_at hl 1 rfl) ?_
  refine lv_sipush (v := 150) hx hb (qaa qom 2 rfl) (by decide) ?_
  obtain ⟨hCc, hPc, hDc, hFc⟩ := qac (ws' := (qa4W a0 jaW jfP ja1 jb6 jiN jbV ja3 jbH jaT jbO jaq jac jbI jbl jbn jba jaa jbA jbz jaW jfZ jk4 jlW jll jj0 jlm jjE)) hP hD hS hA [0, 1] (by decide +kernel) rfl
  refine vx_callv (vx_runV (As := [.int p1, .int 150]) (rest := []) ⟨hx, hb, hml, hown, hts⟩ (qH5 l dC dI cyB cyI cyJ cyP a0 jaW H.size (jfP) (ja1) (.ref jb6) (.ref jiN) (jbV) (ja3) (jbH) (.ref jaT) (jbO) (jaq) (jac) (jbI) (jbl) (jbn) (jba) (jaa) (jbA) (.ref jfZ) jbz jk4 jlW jll jj0 jlm jjE p1 150 hw) (cwV 2 hts gX10_law_X10_openText rfl rfl rfl (by decide +kernel) ⟨nbq rfl, nbq rfl⟩) ⟨qau, va_recv (q := (RX10, TX10, 19)) hK hPc (ci := 10) (q0 := 0) rfl rfl, qbk hPc hK hDc hNw hY hS hFc⟩ rfl rfl hl.1 rfl (lv_room (nbq rfl)) (qaa qom 3 rfl) ⟨nbq rfl, nbq rfl⟩) hS (fun q _ h => hFc q h) hFc (fun q _ h => hFc q h) (fun en ce q9 u t H1 locs ht hvm hpx hB hz1 hk1 hS hc9 hv9 hcl9 => ?_) (fun u t H1 locs ht hvm hw hB hz1 hk1 hS => ?_)
  · obtain ⟨x1, x2, x3, x4, x5, x6, x7⟩ := u
    obtain ⟨hw, hP1, hK1, hD1⟩ := hB
    rw [ht] at hP1
    obtain ⟨hP, hD⟩ := qad (wr := (qbcq jiN jlv jln jmR jmM jnz jfZ cyB ji4 jlv cyI jnJ jln cyI jnA jaT joq jbr jhD jmF)) (w1 := (qa4W a0 jaW jfP ja1 jb6 jiN jbV ja3 jbH jaT jbO jaq jac jbI jbl jbn jba jaa jbA x1 jaW jfZ x2 x3 x4 x5 x6 x7)) (wn := (qK5 a0 jaW jfP ja1 jb6 jiN jbV ja3 jbH jaT jbO jaq jac jbI jbl jbn jba jaa jbA x1 jaW jfZ x2 x3 x4 x5 x6 x7 jiN jlv jln jmR jmM jnz jfZ cyB ji4 jlv cyI jnJ jln cyI jnA jaT joq jbr jhD jmF)) hP hD [0, 1] [2, 3, 4, 5, 6] [5, 6, 0, 1, 2, 3, 4] hCc rfl (by decide +kernel) (by decide +kernel) (by decide +kernel) rfl hk1 hFc hP1 hD1
    generalize H1 = H at hP hS hc9 ⊢
    exact vx_out (fun x hx9 => (hXs.1 x hx9).elim) hlocks hc9 hv9 hcl9 (fun t2 ht2 hal2 => ⟨(x1, x2, x3, x4, x5, x6, x7, jnz, jnJ, jnA, (.ref jb6), (.ref jiN), jmF), trivial, ⟨hw, by rw [ht2]; exact hP, va_K.moved hal2 hK, hD⟩, hS.F ht2⟩) hS.2.2 (nbq rfl) (nbq rfl)
  obtain ⟨x1, x2, x3, x4, x5, x6, x7⟩ := u
  obtain ⟨hP1, hK1, hD1⟩ := hB
  rw [ht] at hP1
  obtain ⟨hP, hD⟩ := qad (wr := (qbcq jiN jlv jln jmR jmM jnz jfZ cyB ji4 jlv cyI jnJ jln cyI jnA jaT joq jbr jhD jmF)) (w1 := (qa4W a0 jaW jfP ja1 jb6 jiN jbV ja3 jbH jaT jbO jaq jac jbI jbl jbn jba jaa jbA x1 jaW jfZ x2 x3 x4 x5 x6 x7)) (wn := (qK5 a0 jaW jfP ja1 jb6 jiN jbV ja3 jbH jaT jbO jaq jac jbI jbl jbn jba jaa jbA x1 jaW jfZ x2 x3 x4 x5 x6 x7 jiN jlv jln jmR jmM jnz jfZ cyB ji4 jlv cyI jnJ jln cyI jnA jaT joq jbr jhD jmF)) hP hD [0, 1] [2, 3, 4, 5, 6] [5, 6, 0, 1, 2, 3, 4] hCc rfl (by decide +kernel) (by decide +kernel) (by decide +kernel) rfl hk1 hFc hP1 hD1
  generalize H1 = H at hP hS ⊢
  refine lv_aload_n hx hb (qaa qom 4 rfl) rfl (lv_at hl 0 rfl) ?_
  refine va_get (D := (dC, dI)) (ci := 10) (v := .ref jiN) (C := RX10) (T := TX10) (N := 19) hx hb hts qpq hown hK hP 0 rfl rfl 4 (by decide) (hts _ qMv) (fun _ h9 => h9) rfl (qaa qom 5 rfl) ?_
  refine lv_aload_n hx hb (qaa qom 6 rfl) rfl (lv_at hl 0 rfl) ?_
  refine va_get (D := (dC, dI)) (ci := 10) (v := .ref jaW) (C := RX10) (T := TX10) (N := 19) hx hb hts qpq hown hK hP 0 rfl rfl 0 (by decide) (hts _ qMA) (fun _ h9 => h9) rfl (qaa qom 7 rfl) ?_
  obtain ⟨hCc, hPc, hDc, hFc⟩ := qac (ws' := (qbcX jiN jlv jln jmR jmM jnz jaW jfZ x2 x3 x4 x5 x6 x7 jfZ cyB ji4 jlv cyI jnJ jln cyI jnA)) hP hD hS hA [2, 1, 3, 4, 5] (by decide +kernel) rfl
  refine va_callv (va_runV (As := [.ref jaW]) (rest := []) ⟨hx, hb, hml, hown, hts⟩ (qare l dC dI cyB cyI cyJ cyP jiN jaW jfZ jlv jln H.size (jmR) (jmM) (.int x5) x2 ji4 jnz x3 x4 x6 x7 jnJ jnA hw) (cwV 1 hts gX10_law_X4_readFrom rfl rfl rfl (by decide +kernel) ⟨nbq rfl, nbq rfl⟩) ⟨qat qsL, va_recv (q := (RX4, TX4, 5)) hK hPc (ci := 4) (q0 := 0) rfl rfl, qbg qsL hPc hK hDc hNw hY hE hS hFc⟩ rfl rfl hl.1 rfl (lv_room (nbq rfl)) (qaa qom 8 rfl) ⟨nbq rfl, nbq rfl⟩) hS (fun q _ h => hFc q h) hFc (fun u t H1 locs ht hvm hw hB hz1 hk1 hS => ?_)
  obtain ⟨x8, x9, x10, x11, x12, f13, f14⟩ := u
  obtain ⟨hP1, hK1, hD1⟩ := hB
  rw [ht] at hP1
  obtain ⟨hP, hD⟩ := qad (wr := [(a0, .inr (10, [.ref jaW, jfP, ja1, .ref jb6, .ref jiN, jbV, ja3, jbH, .ref jaT, jbO, jaq, jac, jbI, jbl, jbn, jba, jaa, jbA, .int x1])), (jaT, .inr (1, [joq, jbr, jhD, jmF]))]) (w1 := (qbcX jiN jlv jln jmR jmM x8 jaW jfZ x2 x9 x10 x5 x11 x12 jfZ cyB ji4 jlv cyI f13 jln cyI f14)) (wn := (qK5 a0 jaW jfP ja1 jb6 jiN jbV ja3 jbH jaT jbO jaq jac jbI jbl jbn jba jaa jbA x1 jaW jfZ x2 x9 x10 x5 x11 x12 jiN jlv jln jmR jmM x8 jfZ cyB ji4 jlv cyI f13 jln cyI f14 jaT joq jbr jhD jmF)) hP hD [2, 1, 3, 4, 5] [0, 6] [0, 3, 2, 4, 5, 6, 1] hCc rfl (by decide +kernel) (by decide +kernel) (by decide +kernel) rfl hk1 hFc hP1 hD1
  generalize H1 = H at hP hS ⊢
  refine lv_aload_n hx hb (qaa qom 9 rfl) rfl (lv_at hl 0 rfl) ?_
  refine va_get (D := (dC, dI)) (ci := 10) (v := .ref jaW) (C := RX10) (T := TX10) (N := 19) hx hb hts qpq hown hK hP 0 rfl rfl 0 (by decide) (hts _ qMA) (fun _ h9 => h9) rfl (qaa qom 10 rfl) ?_
  obtain ⟨hCc, hPc, hDc, hFc⟩ := qac (ws' := (qaZ3 jaW jfZ x2 x9 x10 x5 x11 x12)) hP hD hS hA [1] (by decide +kernel) rfl
  refine va_calli (va_runV (As := []) (rest := []) ⟨hx, hb, hml, hown, hts⟩ (qjR l dC dI cyB cyI cyJ cyP jaW H.size (.ref jfZ) (.int x2) (.int x9) (.int x10) (.int x5) (.int x12) x11 hw) (cwV 0 hts gX10_law_X8_isFaulty rfl rfl rfl (by decide +kernel) ⟨nbq rfl, nbq rfl⟩) ⟨qab, va_recv (q := (RX8, TX8, 7)) hK hPc (ci := 8) (q0 := 0) rfl rfl, qae hPc hK hDc hNw⟩ rfl rfl hl.1 rfl (lv_room (nbq rfl)) (qaa qom 11 rfl) ⟨nbq rfl, nbq rfl⟩) hS (fun q _ h => hFc q h) hFc (fun r15 u t H1 locs ht hvm hw hB hz1 hk1 hS => ?_)
  obtain ⟨hP1, hK1, hD1⟩ := hB
  rw [ht] at hP1
  obtain ⟨hP, hD⟩ := qad (wr := [(a0, .inr (10, [.ref jaW, jfP, ja1, .ref jb6, .ref jiN, jbV, ja3, jbH, .ref jaT, jbO, jaq, jac, jbI, jbl, jbn, jba, jaa, jbA, .int x1])), (jiN, .inr (4, [.ref jlv, .ref jln, jmR, jmM, .int x8])), (jfZ, .inl (cyB, 600, .inl ji4)), (jlv, .inl (cyI, 150, .inl f13)), (jln, .inl (cyI, 150, .inl f14)), (jaT, .inr (1, [joq, jbr, jhD, jmF]))]) (w1 := (qaZ3 jaW jfZ x2 x9 x10 x5 x11 x12)) (wn := (qK5 a0 jaW jfP ja1 jb6 jiN jbV ja3 jbH jaT jbO jaq jac jbI jbl jbn jba jaa jbA x1 jaW jfZ x2 x9 x10 x5 x11 x12 jiN jlv jln jmR jmM x8 jfZ cyB ji4 jlv cyI f13 jln cyI f14 jaT joq jbr jhD jmF)) hP hD [1] [0, 2, 3, 4, 5, 6] [0, 6, 1, 2, 3, 4, 5] hCc rfl (by decide +kernel) (by decide +kernel) (by decide +kernel) rfl hk1 hFc hP1 hD1
  generalize H1 = H at hP hS ⊢
  refine lv_if_eq (tgt := 40) hx hb (qaa qom 12 rfl) (by decide) (fun c16 => ?_) (fun c16 => ?_)
  · have hw := hw.1 c16
    refine lv_aload_n hx hb (qaa qlv 3 rfl) rfl (lv_at hl 0 rfl) ?_
    refine va_get (D := (dC, dI)) (ci := 10) (v := .ref jb6) (C := RX10) (T := TX10) (N := 19) hx hb hts qpq hown hK hP 0 rfl rfl 3 (by decide) (hts _ qMn) (fun _ h9 => h9) rfl (qaa qlv 4 rfl) ?_
    refine lv_astore_n (lv' := [(2, .ref jb6), (0, .ref a0), (1, .int p1)]) hx hb (qaa qlv 5 rfl) rfl hl (by decide) rfl (fun ls hl => ?_)
    refine lv_aload_n hx hb (qaa qlv 6 rfl) rfl (lv_at hl 1 rfl) ?_
    refine lv_aload_n hx hb (qaa qlv 7 rfl) rfl (lv_at hl 1 rfl) ?_
    refine va_get (D := (dC, dI)) (ci := 10) (v := .ref jiN) (C := RX10) (T := TX10) (N := 19) hx hb hts qpq hown hK hP 0 rfl rfl 4 (by decide) (hts _ qMv) (fun _ h9 => h9) rfl (qaa qlv 8 rfl) ?_
    refine va_put (D := (dC, dI)) (ci := 10) (v := .ref jiN) (ty := .object "MarchHares$Law") (C := RX10) (T := TX10) (N := 19) hx hb hts qpq tyX10 tyX10_ok nmX10 hown hK hP hD hS 0 rfl rfl 3 (by decide) (hts _ qMn) (fun _ h9 => h9) rfl (by decide +kernel) rfl rfl (nbq rfl) (qaa qlv 9 rfl) (fun H locs hP hD hS => ?_)
    have hP : va_P (dC, dI) vwCl (qK5 a0 jaW jfP ja1 jiN jiN jbV ja3 jbH jaT jbO jaq jac jbI jbl jbn jba jaa jbA x1 jaW jfZ x2 x9 x10 x5 x11 x12 jiN jlv jln jmR jmM x8 jfZ cyB ji4 jlv cyI f13 jln cyI f14 jaT joq jbr jhD jmF) H := hP
    have hD : va_D A (qK5 a0 jaW jfP ja1 jiN jiN jbV ja3 jbH jaT jbO jaq jac jbI jbl jbn jba jaa jbA x1 jaW jfZ x2 x9 x10 x5 x11 x12 jiN jlv jln jmR jmM x8 jfZ cyB ji4 jlv cyI f13 jln cyI f14 jaT joq jbr jhD jmF) := hD
    refine lv_aload_n hx hb (qaa qlv 10 rfl) rfl (lv_at hl 1 rfl) ?_
    refine lv_aload_n hx hb (qaa qlv 11 rfl) rfl (lv_at hl 0 rfl) ?_
    refine va_put (D := (dC, dI)) (ci := 10) (v := .ref jb6) (ty := .object "MarchHares$Law") (C := RX10) (T := TX10) (N := 19) hx hb hts qpq tyX10 tyX10_ok nmX10 hown hK hP hD hS 0 rfl rfl 4 (by decide) (hts _ qMv) (fun _ h9 => h9) rfl (by decide +kernel) rfl rfl (nbq rfl) (qaa qlv 12 rfl) (fun H locs hP hD hS => ?_)
    have hP : va_P (dC, dI) vwCl (qK5 a0 jaW jfP ja1 jiN jb6 jbV ja3 jbH jaT jbO jaq jac jbI jbl jbn jba jaa jbA x1 jaW jfZ x2 x9 x10 x5 x11 x12 jiN jlv jln jmR jmM x8 jfZ cyB ji4 jlv cyI f13 jln cyI f14 jaT joq jbr jhD jmF) H := hP
    have hD : va_D A (qK5 a0 jaW jfP ja1 jiN jb6 jbV ja3 jbH jaT jbO jaq jac jbI jbl jbn jba jaa jbA x1 jaW jfZ x2 x9 x10 x5 x11 x12 jiN jlv jln jmR jmM x8 jfZ cyB ji4 jlv cyI f13 jln cyI f14 jaT joq jbr jhD jmF) := hD
    refine lv_aload_n hx hb (qaa qlv 13 rfl) rfl (lv_at hl 1 rfl) ?_
    refine va_get (D := (dC, dI)) (ci := 10) (v := .ref jaT) (C := RX10) (T := TX10) (N := 19) hx hb hts qpq hown hK hP 0 rfl rfl 8 (by decide) (hts _ qarf) (fun _ h9 => h9) rfl (qaa qlv 14 rfl) ?_
    refine lv_aload_n hx hb (qaa qlv 15 rfl) rfl (lv_at hl 1 rfl) ?_
    refine va_get (D := (dC, dI)) (ci := 10) (v := .ref jiN) (C := RX10) (T := TX10) (N := 19) hx hb hts qpq hown hK hP 0 rfl rfl 3 (by decide) (hts _ qMn) (fun _ h9 => h9) rfl (qaa qN6 0 rfl) ?_
    obtain ⟨hCc, hPc, hDc, hFc⟩ := qac (ws' := (qbkS jaT joq jbr jhD jmF)) hP hD hS hA [6] (by decide +kernel) rfl
    refine va_callv (va_runV (As := [.ref jiN]) (rest := []) ⟨hx, hb, hml, hown, hts⟩ (qa1I l dC dI cyB cyI cyJ cyP jaT jiN H.size (joq) (jbr) (jhD) (jmF) hw) (cwV 1 hts gX10_law_X1_obey rfl rfl rfl (by decide +kernel) ⟨nbq rfl, nbq rfl⟩) ⟨qab, va_recv (q := (RX1, TX1, 4)) hK hPc (ci := 1) (q0 := 0) rfl rfl, qae hPc hK hDc hNw⟩ rfl rfl hl.1 rfl (lv_room (nbq rfl)) (qaa qN6 1 rfl) ⟨nbq rfl, nbq rfl⟩) hS (fun q _ h => hFc q h) hFc (fun u t H1 locs ht hvm hw hB hz1 hk1 hS => ?_)
    obtain ⟨hP1, hK1, hD1⟩ := hB
    rw [ht] at hP1
    obtain ⟨hP, hD⟩ := qah (wr := [(a0, .inr (10, [.ref jaW, jfP, ja1, .ref jiN, .ref jb6, jbV, ja3, jbH, .ref jaT, jbO, jaq, jac, jbI, jbl, jbn, jba, jaa, jbA, .int x1])), (jaW, .inr (8, [.ref jfZ, .int x2, .int x9, .int x10, .int x5, .int x11, .int x12])), (jiN, .inr (4, [.ref jlv, .ref jln, jmR, jmM, .int x8])), (jfZ, .inl (cyB, 600, .inl ji4)), (jlv, .inl (cyI, 150, .inl f13)), (jln, .inl (cyI, 150, .inl f14))]) (w1 := [(jaT, .inr (1, [joq, jbr, jhD, .ref jiN]))]) (wn := (qbe0 a0 jaW jfP ja1 jiN jb6 jbV ja3 jbH jaT jbO jaq jac jbI jbl jbn jba jaa jbA x1 jaW jfZ x2 x9 x10 x5 x11 x12 jiN jlv jln jmR jmM x8 jfZ cyB ji4 jlv cyI f13 jln cyI f14 jaT joq jbr jhD jiN)) hP hD [6] [0, 1, 2, 3, 4, 5] hCc rfl (by decide +kernel) (by decide +kernel) rfl hk1 hFc hP1 hD1
    generalize H1 = H at hP hS ⊢
    refine lv_iconst (v := 1) hx hb (qaa qN6 2 rfl) (by decide) ?_
    exact vx_ret (W.widen (k := 1) (n := 6) (nbq rfl) (nbq rfl) (W.iret (v := 1) hx hb hr (fun t ht hW => ⟨⟨1, (x1, x2, x9, x10, x5, x11, x12, x8, f13, f14, (.ref jiN), (.ref jb6), (.ref jiN)), rfl, hw, by rw [ht]; exact hP, va_K.moved hW.alike hK, hD⟩, hS.F ht⟩) hS.2.2 (qaa qN6 3 rfl)))
  · have hw := hw.2 c16
    refine lv_aload_n hx hb (qaa qom 13 rfl) rfl (lv_at hl 0 rfl) ?_
    refine va_get (D := (dC, dI)) (ci := 10) (v := .ref jaW) (C := RX10) (T := TX10) (N := 19) hx hb hts qpq hown hK hP 0 rfl rfl 0 (by decide) (hts _ qMA) (fun _ h9 => h9) rfl (qaa qom 14 rfl) ?_
    refine va_get (D := (dC, dI)) (ci := 8) (v := .int x11) (C := RX8) (T := TX8) (N := 7) hx hb hts qaBz hown hK hP 1 rfl rfl 5 (by decide) (hts _ qalt) (fun _ h9 => h9) rfl (qaa qom 15 rfl) ?_
    refine lv_bipush (v := 10) hx hb (qaa qlv 0 rfl) (by decide) ?_
    refine lv_isub hx hb (qaa qlv 1 rfl) ?_
    exact vx_ret (W.widen (k := 1) (n := 6) (nbq rfl) (nbq rfl) (W.iret (v := (x11 - 10)) hx hb hr (fun t ht hW => ⟨⟨(x11 - 10), (x1, x2, x9, x10, x5, x11, x12, x8, f13, f14, (.ref jb6), (.ref jiN), jmF), rfl, hw, by rw [ht]; exact hP, va_K.moved hW.alike hK, hD⟩, hS.F ht⟩) hS.2.2 (qaa qlv 2 rfl)))
theorem qaEd : (.classLink RL 13 "java/lang/IllegalArgumentException" : Cond) ∈ wsL_law := qaMC 595 (by decide +kernel)
theorem qaNl : (.codeWith yL_law cL_law 4 (some .int) [(0, 9, 12, 13)] : Cond) ∈ wsL_law := qaMC 1344 (by decide +kernel)
set_option maxHeartbeats 4000000 in
set_option maxRecDepth 100000 in
theorem qa2c (l : Launch) (dC : Nat → ClassId) (dI : Nat → Nat → Nat) (cyB cyI cyJ cyP : ClassId) (a0 a2 jaW jiN jfZ jlv jln jaT jb6 sz : Nat) (jfP ja1 jbV ja3 jbH jbO jaq jac jbI jbl jbn jba jaa jbA jmR jmM joq jbr jhD : Value) (n2 : Nat) (ji4 : NI) (jbz jk4 jlW jll jj0 jlm jjE jnz : Int32) (jnJ jnA : NI) (jmF : Value) (f2 : Nat → Int64) (p1 : Int32) {Q : Int32 → Int32 → Int32 → Int32 → Int32 → Int32 → Int32 → Int32 → Int32 → NI → NI → Value → Value → Value → (Nat → Int64) → Prop} (hw : qaK7 jb6 jiN n2 ji4 jbz jk4 jlW jll jj0 jlm jjE jnz jnJ jnA (.ref jb6) (.ref jiN) jmF f2 p1 Q) : Met l yL_law wsL_law ({ frames := 35, cells := 1, slots := 6, locals := 800 }) (va_Pc [.ref a0, .int p1, .ref a2] (cPs (zE) l (dC, dI) (kT cyB cyI cyJ cyP) (qam9 a0 jaW jfP ja1 jb6 jiN jbV ja3 jbH jaT jbO jaq jac jbI jbl jbn jba jaa jbA jbz jaW jfZ jk4 jlW jll jj0 jlm jjE jiN jlv jln jmR jmM jnz jfZ cyB ji4 jlv cyI jnJ jln cyI jnA jaT joq jbr jhD jmF a2 cyJ n2 f2) sz)) (va_Qi (fun (r : Int32) (u : Int32 × Int32 × Int32 × Int32 × Int32 × Int32 × Int32 × Int32 × NI × NI × Value × Value × Value × (Nat → Int64)) => Q r u.1 u.2.1 u.2.2.1 u.2.2.2.1 u.2.2.2.2.1 u.2.2.2.2.2.1 u.2.2.2.2.2.2.1 u.2.2.2.2.2.2.2.1 u.2.2.2.2.2.2.2.2.1 u.2.2.2.2.2.2.2.2.2.1 u.2.2.2.2.2.2.2.2.2.2.1 u.2.2.2.2.2.2.2.2.2.2.2.1 u.2.2.2.2.2.2.2.2.2.2.2.2.1 u.2.2.2.2.2.2.2.2.2.2.2.2.2) (cB (dC, dI) (kT cyB cyI cyJ cyP) (va_A (qam9 a0 jaW jfP ja1 jb6 jiN jbV ja3 jbH jaT jbO jaq jac jbI jbl jbn jba jaa jbA jbz jaW jfZ jk4 jlW jll jj0 jlm jjE jiN jlv jln jmR jmM jnz jfZ cyB ji4 jlv cyI jnJ jln cyI jnA jaT joq jbr jhD jmF a2 cyJ n2 f2) sz) (fun u : Int32 × Int32 × Int32 × Int32 × Int32 × Int32 × Int32 × Int32 × NI × NI × Value × Value × Value × (Nat → Int64) => ((qajt a0 jaW jfP ja1 u.2.2.2.2.2.2.2.2.2.2.1 u.2.2.2.2.2.2.2.2.2.2.2.1 jbV ja3 jbH jaT jbO jaq jac jbI jbl jbn jba jaa jbA u.1 jaW jfZ u.2.1 u.2.2.1 u.2.2.2.1 u.2.2.2.2.1 u.2.2.2.2.2.1 u.2.2.2.2.2.2.1 jiN jlv jln jmR jmM u.2.2.2.2.2.2.2.1 jfZ cyB ji4 jlv cyI u.2.2.2.2.2.2.2.2.1 jln cyI u.2.2.2.2.2.2.2.2.2.1 jaT joq jbr jhD u.2.2.2.2.2.2.2.2.2.2.2.2.1 a2 cyJ n2 u.2.2.2.2.2.2.2.2.2.2.2.2.2) : va_W))) (va_A (qam9 a0 jaW jfP ja1 jb6 jiN jbV ja3 jbH jaT jbO jaq jac jbI jbl jbn jba jaa jbA jbz jaW jfZ jk4 jlW jll jj0 jlm jjE jiN jlv jln jmR jmM jnz jfZ cyB ji4 jlv cyI jnJ jln cyI jnA jaT joq jbr jhD jmF a2 cyJ n2 f2) sz)) 1 6 (va_A (qam9 a0 jaW jfP ja1 jb6 jiN jbV ja3 jbH jaT jbO jaq jac jbI jbl jbn jba jaa jbA jbz jaW jfZ jk4 jlW jll jj0 jlm jjE jiN jlv jln jmR jmM jnz jfZ cyB ji4 jlv cyI jnJ jln cyI jnA jaT joq jbr jhD jmF a2 cyJ n2 f2) sz) := by
  refine va_MetW (cc := cL_law) (maxL := 4) (ret := (some .int)) (by decide) rfl ?_
  intro p e s m args below meth c s₁ B hml hv
  obtain ⟨rfl, ⟨hsz, hP, hK, hD0, hNw, hXl, hXu, hXn, hXt⟩, hE0⟩ := hv
  have hx := B.exec
  have hb := B.bytes
  have hr := B.returns
  have hts := atoms_spec (ws := wsL_law) B.pre
  have hown : s.vm.findClass RL = some m.cls := findClass_of_methodNamed B.named
  have hlocks := B.notSynchronized
  subst hsz
  have hD := hD0.self (sz := s.heap.size)
  generalize hAe : va_A (qam9 a0 jaW jfP ja1 jb6 jiN jbV ja3 jbH jaT jbO jaq jac jbI jbl jbn jba jaa jbA jbz jaW jfZ jk4 jlW jll jj0 jlm jjE jiN jlv jln jmR jmM jnz jfZ cyB ji4 jlv cyI jnJ jln cyI jnA jaT joq jbr jhD jmF a2 cyJ n2 f2) s.heap.size = A at hD hXu hXn hE0 ⊢
  have hA : ∀ q : Nat, s.heap.size ≤ q → A q := fun q h => by rw [← hAe]; exact Or.inr h
  have hS : va_S A s.heap s.heap [] := va_S.rf
  have hP : va_P (dC, dI) vwCl (qam9 a0 jaW jfP ja1 jb6 jiN jbV ja3 jbH jaT jbO jaq jac jbI jbl jbn jba jaa jbA jbz jaW jfZ jk4 jlW jll jj0 jlm jjE jiN jlv jln jmR jmM jnz jfZ cyB ji4 jlv cyI jnJ jln cyI jnA jaT joq jbr jhD jmF a2 cyJ n2 f2) s.heap := hP
  have hl := lv_entry ([.ref a0, .int p1, .ref a2]) (n := 4) (nbq rfl)
  rw [lg_entry_eq]
  generalize (lg_sl ([.ref a0, .int p1, .ref a2]) ++ List.replicate (4 - (lg_sl ([.ref a0, .int p1, .ref a2])).length) Slot.unset).toArray = ls at hl ⊢
  have hl : lv_has ls 4 [(0, .ref a0), (1, .int p1), (2, .ref a2)] := hl
  have hY : cfY l s A := ⟨hXl, hXu, hXn, hXt⟩
  have hE := hE0
  have hTb := vx_table (x := yL_law) B (hts _ qaNl)
  clear hAe
  obtain ⟨H, hH⟩ : ∃ H, H = s.heap := ⟨_, rfl⟩
  rw [← hH] at hP ⊢
  have hS : va_S A s.heap H [] := by rw [hH]; exact va_S.rf
  have hS := hS
  refine lv_aload_n hx hb (qaa qvy 0 rfl) rfl (lv_at hl 2 rfl) ?_
  refine lv_iconst (v := 0) hx hb (qaa qvy 1 rfl) (by decide) ?_
  refine lv_aload_n hx hb (qaa qvy 2 rfl) rfl (lv_at hl 0 rfl) ?_
  refine lv_iload_n hx hb (qaa qvy 3 rfl) rfl (lv_at hl 1 rfl) ?_
  obtain ⟨hCc, hPc, hDc, hFc⟩ := qac (ws' := (qK5 a0 jaW jfP ja1 jb6 jiN jbV ja3 jbH jaT jbO jaq jac jbI jbl jbn jba jaa jbA jbz jaW jfZ jk4 jlW jll jj0 jlm jjE jiN jlv jln jmR jmM jnz jfZ cyB ji4 jlv cyI jnJ jln cyI jnA jaT joq jbr jhD jmF)) hP hD hS hA [0, 1, 2, 3, 4, 5, 6] (by decide +kernel) rfl
  refine vx_calli (vx_runV (As := [.int p1]) (rest := [.int 0, .ref a2]) ⟨hx, hb, hml, hown, hts⟩ (qaVN l dC dI cyB cyI cyJ cyP a0 jaW jiN jfZ jlv jln jb6 jaT H.size (jfP) (ja1) (jbV) (ja3) (jbH) (jbO) (jaq) (jac) (jbI) (jbl) (jbn) (jba) (jaa) (jbA) (jmR) (jmM) (joq) (jbr) (jhD) ji4 jbz jk4 jlW jll jj0 jlm jjE jnz jnJ jnA jmF p1 hw) (cwV 1 hts gL_law_X10_law rfl rfl rfl (by decide +kernel) ⟨nbq rfl, nbq rfl⟩) ⟨qat qsL, va_recv (q := (RX10, TX10, 19)) hK hPc (ci := 10) (q0 := 0) rfl rfl, qbg qsL hPc hK hDc hNw hY hE hS hFc⟩ rfl rfl hl.1 rfl (lv_room (nbq rfl)) (qaa qvy 4 rfl) ⟨nbq rfl, nbq rfl⟩) hS (fun q _ h => hFc q h) hFc (fun q _ h => hFc q h) (fun en ce qx9 u t H1 locs ht hvm hpx hB hz1 hk1 hS hc9 hv9 hcl9 => ?_) (fun r14 u t H1 locs ht hvm hw hB hz1 hk1 hS => ?_)
  · obtain ⟨x1, x2, x3, x4, x5, x6, x7, x8, f9, f10, q11, q12, q13⟩ := u
    obtain ⟨hw, hP1, hK1, hD1⟩ := hB
    rw [ht] at hP1
    obtain ⟨hP, hD⟩ := qad (wr := [(a2, .inl (cyJ, n2, .inr (.inl f2)))]) (w1 := (qa0r a0 jaW jfP ja1 q11 q12 jbV ja3 jbH jaT jbO jaq jac jbI jbl jbn jba jaa jbA x1 jaW jfZ x2 x3 x4 x5 x6 x7 jiN jlv jln jmR jmM x8 jfZ cyB ji4 jlv cyI f9 jln cyI f10 jaT joq jbr jhD q13)) (wn := (qajt a0 jaW jfP ja1 q11 q12 jbV ja3 jbH jaT jbO jaq jac jbI jbl jbn jba jaa jbA x1 jaW jfZ x2 x3 x4 x5 x6 x7 jiN jlv jln jmR jmM x8 jfZ cyB ji4 jlv cyI f9 jln cyI f10 jaT joq jbr jhD q13 a2 cyJ n2 f2)) hP hD [0, 1, 2, 3, 4, 5, 6] [7] [1, 2, 3, 4, 5, 6, 7, 0] hCc rfl (by decide +kernel) (by decide +kernel) (by decide +kernel) rfl hk1 hFc hP1 hD1
    generalize H1 = H at hP hS hc9 ⊢
    obtain ⟨rfl, hw⟩ := hw
    refine vx_catch (own := RL) (name := "java/lang/IllegalArgumentException") hown [] ⟨0, 9, 12, 13⟩ [] (hTb.trans rfl) (fun z hz => nomatch hz) (by decide) (by decide) (hts _ qaEd) (va_Nw.use rfl (hY.2.2.2.1.2 _ (List.mem_of_getElem? (i := 0) rfl))) hc9 hv9 hcl9 ?_
    refine lv_astore_n (lv' := [(3, .ref qx9), (0, .ref a0), (1, .int p1), (2, .ref a2)]) hx hb (qaa qvy 8 rfl) rfl hl (by decide) rfl (fun ls hl => ?_)
    refine lv_iconst (v := 1) hx hb (qaa qvy 9 rfl) (by decide) ?_
    exact (W.widen (k := 1) (n := 6) (nbq rfl) (nbq rfl) (W.iret (v := 1) hx hb hr (fun t ht hW => ⟨⟨1, (x1, x2, x3, x4, x5, x6, x7, x8, f9, f10, q11, q12, q13, f2), rfl, hw, by rw [ht]; exact hP, va_K.moved hW.alike hK, hD⟩, hS.F ht⟩) hS.2.2 (qaa qvy 10 rfl)))
  obtain ⟨x1, x2, x3, x4, x5, x6, x7, x8, f9, f10, q11, q12, q13⟩ := u
  obtain ⟨hP1, hK1, hD1⟩ := hB
  rw [ht] at hP1
  obtain ⟨hP, hD⟩ := va_join (wr := [(a2, .inl (cyJ, n2, .inr (.inl f2)))]) (w1 := (qa0r a0 jaW jfP ja1 q11 q12 jbV ja3 jbH jaT jbO jaq jac jbI jbl jbn jba jaa jbA x1 jaW jfZ x2 x3 x4 x5 x6 x7 jiN jlv jln jmR jmM x8 jfZ cyB ji4 jlv cyI f9 jln cyI f10 jaT joq jbr jhD q13)) hP hD [0, 1, 2, 3, 4, 5, 6] [7] rfl rfl (by decide) (by decide) hk1 hFc hP1 hD1
  have hP : va_P (dC, dI) vwCl (qajt a0 jaW jfP ja1 q11 q12 jbV ja3 jbH jaT jbO jaq jac jbI jbl jbn jba jaa jbA x1 jaW jfZ x2 x3 x4 x5 x6 x7 jiN jlv jln jmR jmM x8 jfZ cyB ji4 jlv cyI f9 jln cyI f10 jaT joq jbr jhD q13 a2 cyJ n2 f2) H1 := hP.sub [1, 2, 3, 4, 5, 6, 7, 0] rfl
  have hD : va_D A (qajt a0 jaW jfP ja1 q11 q12 jbV ja3 jbH jaT jbO jaq jac jbI jbl jbn jba jaa jbA x1 jaW jfZ x2 x3 x4 x5 x6 x7 jiN jlv jln jmR jmM x8 jfZ cyB ji4 jlv cyI f9 jln cyI f10 jaT joq jbr jhD q13 a2 cyJ n2 f2) := hD.sub [1, 2, 3, 4, 5, 6, 7, 0] (by decide) rfl
  generalize H1 = H at hP hS ⊢
  refine lv_i2l (v := r14.toInt64) hx hb (qaa qvy 5 rfl) rfl ?_
  refine lv_topl (fun x15 ex15 => ?_)
  have hw := hw x15 ex15
  obtain ⟨hi9, hw⟩ := hw
  refine va_last hx hb hK hP hD hS 7 2 rfl rfl hi9 (qaa qvy 6 rfl) (fun H locs hP hD hS => ?_)
  obtain ⟨f16, ef16⟩ : ∃ y : Nat → Int64, y = vp_updL f2 (0 : Int32).toNatClampNeg x15 := ⟨_, rfl⟩
  have hw := hw f16 ef16
  have hP : va_P (dC, dI) vwCl (qajt a0 jaW jfP ja1 q11 q12 jbV ja3 jbH jaT jbO jaq jac jbI jbl jbn jba jaa jbA x1 jaW jfZ x2 x3 x4 x5 x6 x7 jiN jlv jln jmR jmM x8 jfZ cyB ji4 jlv cyI f9 jln cyI f10 jaT joq jbr jhD q13 a2 cyJ n2 f16) H := by rw [ef16]; exact hP
  have hD : va_D A (qajt a0 jaW jfP ja1 q11 q12 jbV ja3 jbH jaT jbO jaq jac jbI jbl jbn jba jaa jbA x1 jaW jfZ x2 x3 x4 x5 x6 x7 jiN jlv jln jmR jmM x8 jfZ cyB ji4 jlv cyI f9 jln cyI f10 jaT joq jbr jhD q13 a2 cyJ n2 f16) := by rw [ef16]; exact hD
  refine lv_goto (tgt := 15) hx hb (qaa qvy 7 rfl) (by decide) ?_
  refine lv_iconst (v := 0) hx hb (qaa qvy 11 rfl) (by decide) ?_
  exact (W.widen (k := 1) (n := 6) (nbq rfl) (nbq rfl) (W.iret (v := 0) hx hb hr (fun t ht hW => ⟨⟨0, (x1, x2, x3, x4, x5, x6, x7, x8, f9, f10, q11, q12, q13, f16), rfl, hw, by rw [ht]; exact hP, va_K.moved hW.alike hK, hD⟩, hS.F ht⟩) hS.2.2 (qaa qvy 12 rfl)))
set_option maxHeartbeats 4000000 in
set_option maxRecDepth 100000 in
theorem qae5 (l : Launch) (dC : Nat → ClassId) (dI : Nat → Nat → Nat) (cyB cyI cyJ cyP : ClassId) (a0 a1 jbF jkT jjQ jjU jla jjy jha jhi sz : Nat) (jjT jkk jcI : Value) (jb3 : Int32) (jcq : NI) (jhR jeF jcU jbM : Int32) (jl3 jlB jlx : NI) (jbw : Int32) (jms jlq : NI) (jaC : Int32) (jiR jiP : NI) (jaN p2 : Int32) {Q : Int32 → Int32 → Int32 → Int32 → NI → NI → NI → Int32 → NI → NI → Int32 → NI → NI → Int32 → Prop} (hw : qG0 jb3 jcq jhR jeF jcU jbM jl3 jlB jlx jbw jms jlq jaC jiR jiP jaN p2 Q) : Met l yX2_readClause wsX2_readClause ({ frames := 5, cells := 0, slots := 0, locals := 108 }) (va_Pc [.ref a0, .ref a1, .int p2] (cPs (zE) l (dC, dI) (kT cyB cyI cyJ cyP) (qDo a0 jha jhi jjQ jjU jla jjy jkT jjT jaN jaC jbw jkk a1 jbF jb3 jhR jeF jcI jcU jbM jbF cyB jcq jkT cyI jl3 jjQ cyI jlB jjU cyI jlx jla cyI jms jjy cyI jlq jha cyI jiR jhi cyI jiP) sz)) (va_Qv (fun (u : Int32 × Int32 × Int32 × Int32 × NI × NI × NI × Int32 × NI × NI × Int32 × NI × NI × Int32) => Q u.1 u.2.1 u.2.2.1 u.2.2.2.1 u.2.2.2.2.1 u.2.2.2.2.2.1 u.2.2.2.2.2.2.1 u.2.2.2.2.2.2.2.1 u.2.2.2.2.2.2.2.2.1 u.2.2.2.2.2.2.2.2.2.1 u.2.2.2.2.2.2.2.2.2.2.1 u.2.2.2.2.2.2.2.2.2.2.2.1 u.2.2.2.2.2.2.2.2.2.2.2.2.1 u.2.2.2.2.2.2.2.2.2.2.2.2.2) (cB (dC, dI) (kT cyB cyI cyJ cyP) (va_A (qDo a0 jha jhi jjQ jjU jla jjy jkT jjT jaN jaC jbw jkk a1 jbF jb3 jhR jeF jcI jcU jbM jbF cyB jcq jkT cyI jl3 jjQ cyI jlB jjU cyI jlx jla cyI jms jjy cyI jlq jha cyI jiR jhi cyI jiP) sz) (fun u : Int32 × Int32 × Int32 × Int32 × NI × NI × NI × Int32 × NI × NI × Int32 × NI × NI × Int32 => ((qDo a0 jha jhi jjQ jjU jla jjy jkT jjT u.2.2.2.2.2.2.2.2.2.2.2.2.2 u.2.2.2.2.2.2.2.2.2.2.1 u.2.2.2.2.2.2.2.1 jkk a1 jbF jb3 u.1 u.2.1 jcI u.2.2.1 u.2.2.2.1 jbF cyB jcq jkT cyI u.2.2.2.2.1 jjQ cyI u.2.2.2.2.2.1 jjU cyI u.2.2.2.2.2.2.1 jla cyI u.2.2.2.2.2.2.2.2.1 jjy cyI u.2.2.2.2.2.2.2.2.2.1 jha cyI u.2.2.2.2.2.2.2.2.2.2.2.1 jhi cyI u.2.2.2.2.2.2.2.2.2.2.2.2.1) : va_W))) (va_A (qDo a0 jha jhi jjQ jjU jla jjy jkT jjT jaN jaC jbw jkk a1 jbF jb3 jhR jeF jcI jcU jbM jbF cyB jcq jkT cyI jl3 jjQ cyI jlB jjU cyI jlx jla cyI jms jjy cyI jlq jha cyI jiR jhi cyI jiP) sz)) 0 0 (va_A (qDo a0 jha jhi jjQ jjU jla jjy jkT jjT jaN jaC jbw jkk a1 jbF jb3 jhR jeF jcI jcU jbM jbF cyB jcq jkT cyI jl3 jjQ cyI jlB jjU cyI jlx jla cyI jms jjy cyI jlq jha cyI jiR jhi cyI jiP) sz) := by
  refine Met.ofW (cc := cX2_readClause) (maxL := 3) (ret := none) (by decide) rfl ?_
  intro p e s m args below meth c s₁ B hml hv
  obtain ⟨rfl, ⟨hsz, hP, hK, hD0, hNw, hXl, hXu, hXn, hXt⟩, hE0⟩ := hv
  have hx := B.exec
  have hb := B.bytes
  have hr := B.returns
  have hts := atoms_spec (ws := wsX2_readClause) B.pre
  have hown : s.vm.findClass RX2 = some m.cls := findClass_of_methodNamed B.named
  have hlocks := B.notSynchronized
  subst hsz
  have hD := hD0.self (sz := s.heap.size)
  generalize hAe : va_A (qDo a0 jha jhi jjQ jjU jla jjy jkT jjT jaN jaC jbw jkk a1 jbF jb3 jhR jeF jcI jcU jbM jbF cyB jcq jkT cyI jl3 jjQ cyI jlB jjU cyI jlx jla cyI jms jjy cyI jlq jha cyI jiR jhi cyI jiP) s.heap.size = A at hD hXu hXn hE0 ⊢
  have hA : ∀ q : Nat, s.heap.size ≤ q → A q := fun q h => by rw [← hAe]; exact Or.inr h
  have hS : va_S A s.heap s.heap [] := va_S.rf
  have hP : va_P (dC, dI) vwCl (qDo a0 jha jhi jjQ jjU jla jjy jkT jjT jaN jaC jbw jkk a1 jbF jb3 jhR jeF jcI jcU jbM jbF cyB jcq jkT cyI jl3 jjQ cyI jlB jjU cyI jlx jla cyI jms jjy cyI jlq jha cyI jiR jhi cyI jiP) s.heap := hP
  have hl := lv_entry ([.ref a0, .ref a1, .int p2]) (n := 3) (nbq rfl)
  rw [lg_entry_eq]
  generalize (lg_sl ([.ref a0, .ref a1, .int p2]) ++ List.replicate (3 - (lg_sl ([.ref a0, .ref a1, .int p2])).length) Slot.unset).toArray = ls at hl ⊢
  have hl : lv_has ls 3 [(0, .ref a0), (1, .ref a1), (2, .int p2)] := hl
  have hY : cfY l s A := ⟨hXl, hXu, hXn, hXt⟩
  have C0 : cfx p s m _ meth c cX2_readClause none wsX2_readClause RX2 3 A (dC, dI) (kT cyB cyI cyJ cyP) ∧ cfY l s A ∧ zE A s s.heap := ⟨⟨hx, hb, hr, hts, hown, hlocks, hml, hA, hK, hNw⟩, hY, hE0⟩
  have hE := hE0
  clear hAe
  obtain ⟨H, hH⟩ : ∃ H, H = s.heap := ⟨_, rfl⟩
  rw [← hH] at hP ⊢
  have hS : va_S A s.heap H [] := by rw [hH]; exact va_S.rf
  have hS := hS
  refine lv_aload_n hx hb (qaa qdb 0 rfl) rfl (lv_at hl 1 rfl) ?_
  obtain ⟨k1, hRk1, hZk1⟩ := qbaV hE
  refine va_ldcS hx hb hown hRk1 (qaa qdb 1 rfl) ?_
  obtain ⟨hCc, hPc, hDc, hFc⟩ := qac (ws' := (qqX a1 jbF jb3 jhR jeF jcI jcU jbM jbF cyB jcq)) hP hD hS hA [1, 2] (by decide +kernel) rfl
  refine va_calli (va_runV (As := [.ref k1]) (rest := []) ⟨hx, hb, hml, hown, hts⟩ (qb9 l dC dI cyB cyI cyJ cyP a1 k1 jbF H.size (jcI) (.int jbM) 4 q49 jb3 jcU jcq jhR jeF hw) (cwV 1 hts gX2_readClause_X8_takesWord rfl rfl rfl (by decide +kernel) ⟨nbq rfl, nbq rfl⟩) ⟨qat qsO, va_recv (q := (RX8, TX8, 7)) hK hPc (ci := 8) (q0 := 0) rfl rfl, qbg qsO hPc hK hDc hNw hY ⟨hE, hZk1⟩ hS hFc⟩ rfl rfl hl.1 rfl (lv_room (nbq rfl)) (qaa qdb 2 rfl) ⟨nbq rfl, nbq rfl⟩) hS (fun q _ h => hFc q h) hFc (fun r4 u t H1 locs ht hvm hw hB hz1 hk1 hS => ?_)
  obtain ⟨x2, x3⟩ := u
  obtain ⟨hP1, hK1, hD1⟩ := hB
  rw [ht] at hP1
  obtain ⟨hP, hD⟩ := qad (wr := (qaD3 a0 jha jhi jjQ jjU jla jjy jkT jjT jaN jaC jbw jkk jkT cyI jl3 jjQ cyI jlB jjU cyI jlx jla cyI jms jjy cyI jlq jha cyI jiR jhi cyI jiP)) (w1 := (qqX a1 jbF jb3 x2 x3 jcI jcU jbM jbF cyB jcq)) (wn := (qDo a0 jha jhi jjQ jjU jla jjy jkT jjT jaN jaC jbw jkk a1 jbF jb3 x2 x3 jcI jcU jbM jbF cyB jcq jkT cyI jl3 jjQ cyI jlB jjU cyI jlx jla cyI jms jjy cyI jlq jha cyI jiR jhi cyI jiP)) hP hD [1, 2] [0, 3, 4, 5, 6, 7, 8, 9] [0, 8, 9, 1, 2, 3, 4, 5, 6, 7] hCc rfl (by decide +kernel) (by decide +kernel) (by decide +kernel) rfl hk1 hFc hP1 hD1
  generalize H1 = H at hP hS ⊢
  refine lv_if_eq (tgt := 18) hx hb (qaa qdb 3 rfl) (by decide) (fun c5 => ?_) (fun c5 => ?_)
  · have hw := hw.1 c5
    refine lv_aload_n hx hb (qaa qdb 9 rfl) rfl (lv_at hl 1 rfl) ?_
    obtain ⟨k6, hRk6, hZk6⟩ := qbbF hE
    refine va_ldcS hx hb hown hRk6 (qaa qdb 10 rfl) ?_
    obtain ⟨hCc, hPc, hDc, hFc⟩ := qac (ws' := (qqX a1 jbF jb3 x2 x3 jcI jcU jbM jbF cyB jcq)) hP hD hS hA [1, 2] (by decide +kernel) rfl
    refine va_calli (va_runV (As := [.ref k6]) (rest := []) ⟨hx, hb, hml, hown, hts⟩ (qb9 l dC dI cyB cyI cyJ cyP a1 k6 jbF H.size (jcI) (.int jbM) 4 q5d jb3 jcU jcq x2 x3 hw) (cwV 1 hts gX2_readClause_X8_takesWord rfl rfl rfl (by decide +kernel) ⟨nbq rfl, nbq rfl⟩) ⟨qat qsO, va_recv (q := (RX8, TX8, 7)) hK hPc (ci := 8) (q0 := 0) rfl rfl, qbg qsO hPc hK hDc hNw hY ⟨hE, hZk6⟩ hS hFc⟩ rfl rfl hl.1 rfl (lv_room (nbq rfl)) (qaa qdb 11 rfl) ⟨nbq rfl, nbq rfl⟩) hS (fun q _ h => hFc q h) hFc (fun r9 u t H1 locs ht hvm hw hB hz1 hk1 hS => ?_)
    obtain ⟨x7, x8⟩ := u
    obtain ⟨hP1, hK1, hD1⟩ := hB
    rw [ht] at hP1
    obtain ⟨hP, hD⟩ := qad (wr := (qaD3 a0 jha jhi jjQ jjU jla jjy jkT jjT jaN jaC jbw jkk jkT cyI jl3 jjQ cyI jlB jjU cyI jlx jla cyI jms jjy cyI jlq jha cyI jiR jhi cyI jiP)) (w1 := (qqX a1 jbF jb3 x7 x8 jcI jcU jbM jbF cyB jcq)) (wn := (qDo a0 jha jhi jjQ jjU jla jjy jkT jjT jaN jaC jbw jkk a1 jbF jb3 x7 x8 jcI jcU jbM jbF cyB jcq jkT cyI jl3 jjQ cyI jlB jjU cyI jlx jla cyI jms jjy cyI jlq jha cyI jiR jhi cyI jiP)) hP hD [1, 2] [0, 3, 4, 5, 6, 7, 8, 9] [0, 8, 9, 1, 2, 3, 4, 5, 6, 7] hCc rfl (by decide +kernel) (by decide +kernel) (by decide +kernel) rfl hk1 hFc hP1 hD1
    generalize H1 = H at hP hS ⊢
    refine lv_if_eq (tgt := 36) hx hb (qaa qdb 12 rfl) (by decide) (fun c10 => ?_) (fun c10 => ?_)
    · have hw := hw.1 c10
      refine lv_aload_n hx hb (qaa qcT 2 rfl) rfl (lv_at hl 1 rfl) ?_
      obtain ⟨k11, hRk11, hZk11⟩ := qba8 hE
      refine va_ldcS hx hb hown hRk11 (qaa qcT 3 rfl) ?_
      obtain ⟨hCc, hPc, hDc, hFc⟩ := qac (ws' := (qqX a1 jbF jb3 x7 x8 jcI jcU jbM jbF cyB jcq)) hP hD hS hA [1, 2] (by decide +kernel) rfl
      refine va_calli (va_runV (As := [.ref k11]) (rest := []) ⟨hx, hb, hml, hown, hts⟩ (qb9 l dC dI cyB cyI cyJ cyP a1 k11 jbF H.size (jcI) (.int jbM) 3 q5o jb3 jcU jcq x7 x8 hw) (cwV 1 hts gX2_readClause_X8_takesWord rfl rfl rfl (by decide +kernel) ⟨nbq rfl, nbq rfl⟩) ⟨qat qsO, va_recv (q := (RX8, TX8, 7)) hK hPc (ci := 8) (q0 := 0) rfl rfl, qbg qsO hPc hK hDc hNw hY ⟨hE, hZk11⟩ hS hFc⟩ rfl rfl hl.1 rfl (lv_room (nbq rfl)) (qaa qcT 4 rfl) ⟨nbq rfl, nbq rfl⟩) hS (fun q _ h => hFc q h) hFc (fun r14 u t H1 locs ht hvm hw hB hz1 hk1 hS => ?_)
      obtain ⟨x12, x13⟩ := u
      obtain ⟨hP1, hK1, hD1⟩ := hB
      rw [ht] at hP1
      obtain ⟨hP, hD⟩ := qad (wr := (qaD3 a0 jha jhi jjQ jjU jla jjy jkT jjT jaN jaC jbw jkk jkT cyI jl3 jjQ cyI jlB jjU cyI jlx jla cyI jms jjy cyI jlq jha cyI jiR jhi cyI jiP)) (w1 := (qqX a1 jbF jb3 x12 x13 jcI jcU jbM jbF cyB jcq)) (wn := (qDo a0 jha jhi jjQ jjU jla jjy jkT jjT jaN jaC jbw jkk a1 jbF jb3 x12 x13 jcI jcU jbM jbF cyB jcq jkT cyI jl3 jjQ cyI jlB jjU cyI jlx jla cyI jms jjy cyI jlq jha cyI jiR jhi cyI jiP)) hP hD [1, 2] [0, 3, 4, 5, 6, 7, 8, 9] [0, 8, 9, 1, 2, 3, 4, 5, 6, 7] hCc rfl (by decide +kernel) (by decide +kernel) (by decide +kernel) rfl hk1 hFc hP1 hD1
      generalize H1 = H at hP hS ⊢
      refine lv_if_eq (tgt := 54) hx hb (qaa qcT 5 rfl) (by decide) (fun c15 => ?_) (fun c15 => ?_)
      · have hw := hw.1 c15
        refine lv_aload_n hx hb (qaa qcT 11 rfl) rfl (lv_at hl 1 rfl) ?_
        obtain ⟨k16, hRk16, hZk16⟩ := qbbl hE
        refine va_ldcS hx hb hown hRk16 (qaa qcT 12 rfl) ?_
        obtain ⟨hCc, hPc, hDc, hFc⟩ := qac (ws' := (qqX a1 jbF jb3 x12 x13 jcI jcU jbM jbF cyB jcq)) hP hD hS hA [1, 2] (by decide +kernel) rfl
        refine va_calli (va_runV (As := [.ref k16]) (rest := []) ⟨hx, hb, hml, hown, hts⟩ (qb9 l dC dI cyB cyI cyJ cyP a1 k16 jbF H.size (jcI) (.int jbM) 4 q5n jb3 jcU jcq x12 x13 hw) (cwV 1 hts gX2_readClause_X8_takesWord rfl rfl rfl (by decide +kernel) ⟨nbq rfl, nbq rfl⟩) ⟨qat qsO, va_recv (q := (RX8, TX8, 7)) hK hPc (ci := 8) (q0 := 0) rfl rfl, qbg qsO hPc hK hDc hNw hY ⟨hE, hZk16⟩ hS hFc⟩ rfl rfl hl.1 rfl (lv_room (nbq rfl)) (qaa qcT 13 rfl) ⟨nbq rfl, nbq rfl⟩) hS (fun q _ h => hFc q h) hFc (fun r19 u t H1 locs ht hvm hw hB hz1 hk1 hS => ?_)
        obtain ⟨x17, x18⟩ := u
        obtain ⟨hP1, hK1, hD1⟩ := hB
        rw [ht] at hP1
        obtain ⟨hP, hD⟩ := qad (wr := (qaD3 a0 jha jhi jjQ jjU jla jjy jkT jjT jaN jaC jbw jkk jkT cyI jl3 jjQ cyI jlB jjU cyI jlx jla cyI jms jjy cyI jlq jha cyI jiR jhi cyI jiP)) (w1 := (qqX a1 jbF jb3 x17 x18 jcI jcU jbM jbF cyB jcq)) (wn := (qDo a0 jha jhi jjQ jjU jla jjy jkT jjT jaN jaC jbw jkk a1 jbF jb3 x17 x18 jcI jcU jbM jbF cyB jcq jkT cyI jl3 jjQ cyI jlB jjU cyI jlx jla cyI jms jjy cyI jlq jha cyI jiR jhi cyI jiP)) hP hD [1, 2] [0, 3, 4, 5, 6, 7, 8, 9] [0, 8, 9, 1, 2, 3, 4, 5, 6, 7] hCc rfl (by decide +kernel) (by decide +kernel) (by decide +kernel) rfl hk1 hFc hP1 hD1
        generalize H1 = H at hP hS ⊢
        refine lv_if_eq (tgt := 72) hx hb (qaa qcT 14 rfl) (by decide) (fun c20 => ?_) (fun c20 => ?_)
        · have hw := hw.1 c20
          refine lv_aload_n hx hb (qaa qim 4 rfl) rfl (lv_at hl 1 rfl) ?_
          obtain ⟨hCc, hPc, hDc, hFc⟩ := qac (ws' := (qqX a1 jbF jb3 x17 x18 jcI jcU jbM jbF cyB jcq)) hP hD hS hA [1, 2] (by decide +kernel) rfl
          refine va_callv (va_runV (As := []) (rest := []) ⟨hx, hb, hml, hown, hts⟩ (qBx l dC dI cyB cyI cyJ cyP a1 jbF H.size (.int x18) (jcI) jb3 jcq x17 jcU jbM hw) (cwV 0 hts gX2_readClause_X8_blameSign rfl rfl rfl (by decide +kernel) ⟨nbq rfl, nbq rfl⟩) ⟨qab, va_recv (q := (RX8, TX8, 7)) hK hPc (ci := 8) (q0 := 0) rfl rfl, qae hPc hK hDc hNw⟩ rfl rfl hl.1 rfl (lv_room (nbq rfl)) (qaa qim 5 rfl) ⟨nbq rfl, nbq rfl⟩) hS (fun q _ h => hFc q h) hFc (fun u t H1 locs ht hvm hw hB hz1 hk1 hS => ?_)
          obtain ⟨x21, x22, x23⟩ := u
          obtain ⟨hP1, hK1, hD1⟩ := hB
          rw [ht] at hP1
          obtain ⟨hP, hD⟩ := qad (wr := (qaD3 a0 jha jhi jjQ jjU jla jjy jkT jjT jaN jaC jbw jkk jkT cyI jl3 jjQ cyI jlB jjU cyI jlx jla cyI jms jjy cyI jlq jha cyI jiR jhi cyI jiP)) (w1 := (qqX a1 jbF jb3 x21 x18 jcI x22 x23 jbF cyB jcq)) (wn := (qDo a0 jha jhi jjQ jjU jla jjy jkT jjT jaN jaC jbw jkk a1 jbF jb3 x21 x18 jcI x22 x23 jbF cyB jcq jkT cyI jl3 jjQ cyI jlB jjU cyI jlx jla cyI jms jjy cyI jlq jha cyI jiR jhi cyI jiP)) hP hD [1, 2] [0, 3, 4, 5, 6, 7, 8, 9] [0, 8, 9, 1, 2, 3, 4, 5, 6, 7] hCc rfl (by decide +kernel) (by decide +kernel) (by decide +kernel) rfl hk1 hFc hP1 hD1
          generalize H1 = H at hP hS ⊢
          exact ((W.vret hx hb hr (fun t ht hW => ⟨⟨(x21, x18, x22, x23, jl3, jlB, jlx, jbw, jms, jlq, jaC, jiR, jiP, jaN), rfl, hw, by rw [ht]; exact hP, va_K.moved hW.alike hK, hD⟩, hS.F ht⟩) hS.2.2 (qaa qim 6 rfl)))
        · have hw := hw.2 c20
          refine lv_aload_n hx hb (qaa qcT 15 rfl) rfl (lv_at hl 0 rfl) ?_
          refine lv_aload_n hx hb (qaa qim 0 rfl) rfl (lv_at hl 1 rfl) ?_
          refine lv_iload_n hx hb (qaa qim 1 rfl) rfl (lv_at hl 2 rfl) ?_
          obtain ⟨hCc, hPc, hDc, hFc⟩ := qac (ws' := (qa9Z a0 jha jhi jjQ jjU jla jjy jkT jjT jaN jaC jbw jkk a1 jbF jb3 x17 x18 jcI jcU jbM jbF cyB jcq jkT cyI jl3)) hP hD hS hA [0, 1, 2, 3] (by decide +kernel) rfl
          refine va_callv (va_runV (As := [.ref a1, .int p2]) (rest := []) ⟨hx, hb, hml, hown, hts⟩ (qaGr l dC dI cyB cyI cyJ cyP a0 a1 jbF jkT H.size (.ref jha) (.ref jhi) (.ref jjQ) (.ref jjU) (.ref jla) (.ref jjy) (jjT) (.int jaN) (.int jbw) (jkk) (jcI) jaC jb3 jcq x17 jcU jbM x18 jl3 p2 hw) (cwV 2 hts gX2_readClause_X2_readDebt rfl rfl rfl (by decide +kernel) ⟨nbq rfl, nbq rfl⟩) ⟨qab, va_recv (q := (RX2, TX2, 12)) hK hPc (ci := 2) (q0 := 0) rfl rfl, qae hPc hK hDc hNw⟩ rfl rfl hl.1 rfl (lv_room (nbq rfl)) (qaa qim 2 rfl) ⟨nbq rfl, nbq rfl⟩) hS (fun q _ h => hFc q h) hFc (fun u t H1 locs ht hvm hw hB hz1 hk1 hS => ?_)
          obtain ⟨x24, x25, x26, x27, f28⟩ := u
          obtain ⟨hP1, hK1, hD1⟩ := hB
          rw [ht] at hP1
          obtain ⟨hP, hD⟩ := qad (wr := [(jjQ, .inl (cyI, 4, .inl jlB)), (jjU, .inl (cyI, 4, .inl jlx)), (jla, .inl (cyI, 6, .inl jms)), (jjy, .inl (cyI, 6, .inl jlq)), (jha, .inl (cyI, 8, .inl jiR)), (jhi, .inl (cyI, 8, .inl jiP))]) (w1 := (qa9Z a0 jha jhi jjQ jjU jla jjy jkT jjT jaN jaC jbw jkk a1 jbF jb3 x24 x27 jcI x25 x26 jbF cyB jcq jkT cyI f28)) (wn := (qDo a0 jha jhi jjQ jjU jla jjy jkT jjT jaN jaC jbw jkk a1 jbF jb3 x24 x27 jcI x25 x26 jbF cyB jcq jkT cyI f28 jjQ cyI jlB jjU cyI jlx jla cyI jms jjy cyI jlq jha cyI jiR jhi cyI jiP)) hP hD [0, 1, 2, 3] [4, 5, 6, 7, 8, 9] [6, 7, 8, 9, 0, 1, 2, 3, 4, 5] hCc rfl (by decide +kernel) (by decide +kernel) (by decide +kernel) rfl hk1 hFc hP1 hD1
          generalize H1 = H at hP hS ⊢
          refine lv_goto (tgt := 76) hx hb (qaa qim 3 rfl) (by decide) ?_
          exact ((W.vret hx hb hr (fun t ht hW => ⟨⟨(x24, x27, x25, x26, f28, jlB, jlx, jbw, jms, jlq, jaC, jiR, jiP, jaN), rfl, hw, by rw [ht]; exact hP, va_K.moved hW.alike hK, hD⟩, hS.F ht⟩) hS.2.2 (qaa qim 6 rfl)))
      · have hw := hw.2 c15
        refine lv_aload_n hx hb (qaa qcT 6 rfl) rfl (lv_at hl 0 rfl) ?_
        refine lv_aload_n hx hb (qaa qcT 7 rfl) rfl (lv_at hl 1 rfl) ?_
        refine lv_iload_n hx hb (qaa qcT 8 rfl) rfl (lv_at hl 2 rfl) ?_
        obtain ⟨hCc, hPc, hDc, hFc⟩ := qac (ws' := (qa78 a0 jha jhi jjQ jjU jla jjy jkT jjT jaN jaC jbw jkk a1 jbF jb3 x12 x13 jcI jcU jbM jbF cyB jcq jjQ cyI jlB jjU cyI jlx)) hP hD hS hA [0, 1, 2, 4, 5] (by decide +kernel) rfl
        refine va_callv (va_runV (As := [.ref a1, .int p2]) (rest := []) ⟨hx, hb, hml, hown, hts⟩ (qaMk l dC dI cyB cyI cyJ cyP a0 a1 jjQ jbF jjU H.size (.ref jha) (.ref jhi) (.ref jla) (.ref jjy) (.ref jkT) (jjT) (.int jaN) (.int jaC) (jkk) (jcI) jb3 jcq x12 jcU jbM x13 jlB jlx jbw p2 hw) (cwV 2 hts gX2_readClause_X2_readFox rfl rfl rfl (by decide +kernel) ⟨nbq rfl, nbq rfl⟩) ⟨qab, va_recv (q := (RX2, TX2, 12)) hK hPc (ci := 2) (q0 := 0) rfl rfl, qae hPc hK hDc hNw⟩ rfl rfl hl.1 rfl (lv_room (nbq rfl)) (qaa qcT 9 rfl) ⟨nbq rfl, nbq rfl⟩) hS (fun q _ h => hFc q h) hFc (fun u t H1 locs ht hvm hw hB hz1 hk1 hS => ?_)
        obtain ⟨x29, x30, x31, x32, f33, f34, x35⟩ := u
        obtain ⟨hP1, hK1, hD1⟩ := hB
        rw [ht] at hP1
        obtain ⟨hP, hD⟩ := qad (wr := [(jkT, .inl (cyI, 36, .inl jl3)), (jla, .inl (cyI, 6, .inl jms)), (jjy, .inl (cyI, 6, .inl jlq)), (jha, .inl (cyI, 8, .inl jiR)), (jhi, .inl (cyI, 8, .inl jiP))]) (w1 := (qa78 a0 jha jhi jjQ jjU jla jjy jkT jjT jaN jaC x35 jkk a1 jbF jb3 x29 x32 jcI x30 x31 jbF cyB jcq jjQ cyI f33 jjU cyI f34)) (wn := (qDo a0 jha jhi jjQ jjU jla jjy jkT jjT jaN jaC x35 jkk a1 jbF jb3 x29 x32 jcI x30 x31 jbF cyB jcq jkT cyI jl3 jjQ cyI f33 jjU cyI f34 jla cyI jms jjy cyI jlq jha cyI jiR jhi cyI jiP)) hP hD [0, 1, 2, 4, 5] [3, 6, 7, 8, 9] [5, 6, 7, 0, 8, 9, 1, 2, 3, 4] hCc rfl (by decide +kernel) (by decide +kernel) (by decide +kernel) rfl hk1 hFc hP1 hD1
        generalize H1 = H at hP hS ⊢
        refine lv_goto (tgt := 76) hx hb (qaa qcT 10 rfl) (by decide) ?_
        exact ((W.vret hx hb hr (fun t ht hW => ⟨⟨(x29, x32, x30, x31, jl3, f33, f34, x35, jms, jlq, jaC, jiR, jiP, jaN), rfl, hw, by rw [ht]; exact hP, va_K.moved hW.alike hK, hD⟩, hS.F ht⟩) hS.2.2 (qaa qim 6 rfl)))
    · have hw := hw.2 c10
      refine lv_aload_n hx hb (qaa qdb 13 rfl) rfl (lv_at hl 0 rfl) ?_
      refine lv_aload_n hx hb (qaa qdb 14 rfl) rfl (lv_at hl 1 rfl) ?_
      refine lv_iload_n hx hb (qaa qdb 15 rfl) rfl (lv_at hl 2 rfl) ?_
      obtain ⟨hCc, hPc, hDc, hFc⟩ := qac (ws' := (qa45 a0 jha jhi jjQ jjU jla jjy jkT jjT jaN jaC jbw jkk a1 jbF jb3 x7 x8 jcI jcU jbM jbF cyB jcq jla cyI jms jjy cyI jlq)) hP hD hS hA [0, 1, 2, 6, 7] (by decide +kernel) rfl
      refine va_callv (va_runV (As := [.ref a1, .int p2]) (rest := []) ⟨hx, hb, hml, hown, hts⟩ (qaKH l dC dI cyB cyI cyJ cyP a0 a1 jla jbF jjy H.size (.ref jha) (.ref jhi) (.ref jjQ) (.ref jjU) (.ref jkT) (jjT) (.int jbw) (jkk) (jcI) jaN jb3 jcq x7 jcU jbM x8 jms jlq jaC p2 hw) (cwV 2 hts gX2_readClause_X2_readHare rfl rfl rfl (by decide +kernel) ⟨nbq rfl, nbq rfl⟩) ⟨qab, va_recv (q := (RX2, TX2, 12)) hK hPc (ci := 2) (q0 := 0) rfl rfl, qae hPc hK hDc hNw⟩ rfl rfl hl.1 rfl (lv_room (nbq rfl)) (qaa qcT 0 rfl) ⟨nbq rfl, nbq rfl⟩) hS (fun q _ h => hFc q h) hFc (fun u t H1 locs ht hvm hw hB hz1 hk1 hS => ?_)
      obtain ⟨x36, x37, x38, x39, f40, f41, x42⟩ := u
      obtain ⟨hP1, hK1, hD1⟩ := hB
      rw [ht] at hP1
      obtain ⟨hP, hD⟩ := qad (wr := [(jkT, .inl (cyI, 36, .inl jl3)), (jjQ, .inl (cyI, 4, .inl jlB)), (jjU, .inl (cyI, 4, .inl jlx)), (jha, .inl (cyI, 8, .inl jiR)), (jhi, .inl (cyI, 8, .inl jiP))]) (w1 := (qa45 a0 jha jhi jjQ jjU jla jjy jkT jjT jaN x42 jbw jkk a1 jbF jb3 x36 x39 jcI x37 x38 jbF cyB jcq jla cyI f40 jjy cyI f41)) (wn := (qDo a0 jha jhi jjQ jjU jla jjy jkT jjT jaN x42 jbw jkk a1 jbF jb3 x36 x39 jcI x37 x38 jbF cyB jcq jkT cyI jl3 jjQ cyI jlB jjU cyI jlx jla cyI f40 jjy cyI f41 jha cyI jiR jhi cyI jiP)) hP hD [0, 1, 2, 6, 7] [3, 4, 5, 8, 9] [5, 6, 7, 0, 1, 2, 8, 9, 3, 4] hCc rfl (by decide +kernel) (by decide +kernel) (by decide +kernel) rfl hk1 hFc hP1 hD1
      generalize H1 = H at hP hS ⊢
      refine lv_goto (tgt := 76) hx hb (qaa qcT 1 rfl) (by decide) ?_
      exact ((W.vret hx hb hr (fun t ht hW => ⟨⟨(x36, x39, x37, x38, jl3, jlB, jlx, jbw, f40, f41, x42, jiR, jiP, jaN), rfl, hw, by rw [ht]; exact hP, va_K.moved hW.alike hK, hD⟩, hS.F ht⟩) hS.2.2 (qaa qim 6 rfl)))
  · have hw := hw.2 c5
    refine lv_aload_n hx hb (qaa qdb 4 rfl) rfl (lv_at hl 0 rfl) ?_
    refine lv_aload_n hx hb (qaa qdb 5 rfl) rfl (lv_at hl 1 rfl) ?_
    refine lv_iload_n hx hb (qaa qdb 6 rfl) rfl (lv_at hl 2 rfl) ?_
    obtain ⟨hCc, hPc, hDc, hFc⟩ := qac (ws' := (qa3d a0 jha jhi jjQ jjU jla jjy jkT jjT jaN jaC jbw jkk a1 jbF jb3 x2 x3 jcI jcU jbM jbF cyB jcq jha cyI jiR jhi cyI jiP)) hP hD hS hA [0, 1, 2, 8, 9] (by decide +kernel) rfl
    refine va_callv (va_runV (As := [.ref a1, .int p2]) (rest := []) ⟨hx, hb, hml, hown, hts⟩ (qaIq l dC dI cyB cyI cyJ cyP a0 a1 jha jbF jhi H.size (.ref jjQ) (.ref jjU) (.ref jla) (.ref jjy) (.ref jkT) (jjT) (.int jaC) (.int jbw) (jkk) (jcI) jb3 jcq x2 jcU jbM x3 jiR jiP jaN p2 hw) (cwV 2 hts gX2_readClause_X2_readForm rfl rfl rfl (by decide +kernel) ⟨nbq rfl, nbq rfl⟩) ⟨qab, va_recv (q := (RX2, TX2, 12)) hK hPc (ci := 2) (q0 := 0) rfl rfl, qae hPc hK hDc hNw⟩ rfl rfl hl.1 rfl (lv_room (nbq rfl)) (qaa qdb 7 rfl) ⟨nbq rfl, nbq rfl⟩) hS (fun q _ h => hFc q h) hFc (fun u t H1 locs ht hvm hw hB hz1 hk1 hS => ?_)
    obtain ⟨x43, x44, x45, x46, f47, f48, x49⟩ := u
    obtain ⟨hP1, hK1, hD1⟩ := hB
    rw [ht] at hP1
    obtain ⟨hP, hD⟩ := qad (wr := [(jkT, .inl (cyI, 36, .inl jl3)), (jjQ, .inl (cyI, 4, .inl jlB)), (jjU, .inl (cyI, 4, .inl jlx)), (jla, .inl (cyI, 6, .inl jms)), (jjy, .inl (cyI, 6, .inl jlq))]) (w1 := (qa3d a0 jha jhi jjQ jjU jla jjy jkT jjT x49 jaC jbw jkk a1 jbF jb3 x43 x46 jcI x44 x45 jbF cyB jcq jha cyI f47 jhi cyI f48)) (wn := (qDo a0 jha jhi jjQ jjU jla jjy jkT jjT x49 jaC jbw jkk a1 jbF jb3 x43 x46 jcI x44 x45 jbF cyB jcq jkT cyI jl3 jjQ cyI jlB jjU cyI jlx jla cyI jms jjy cyI jlq jha cyI f47 jhi cyI f48)) hP hD [0, 1, 2, 8, 9] [3, 4, 5, 6, 7] [5, 6, 7, 0, 1, 2, 3, 4, 8, 9] hCc rfl (by decide +kernel) (by decide +kernel) (by decide +kernel) rfl hk1 hFc hP1 hD1
    generalize H1 = H at hP hS ⊢
    refine lv_goto (tgt := 76) hx hb (qaa qdb 8 rfl) (by decide) ?_
    exact ((W.vret hx hb hr (fun t ht hW => ⟨⟨(x43, x46, x44, x45, jl3, jlB, jlx, jbw, jms, jlq, jaC, f47, f48, x49), rfl, hw, by rw [ht]; exact hP, va_K.moved hW.alike hK, hD⟩, hS.F ht⟩) hS.2.2 (qaa qim 6 rfl)))
theorem qv7 : ∀ w ∈ u_ws RX2 TX2 12, w ∈ wsX2_readFrom := uiM qpM qLg (by decide +kernel)
theorem qNN : (.fieldLink RX2 30 "MarchHares$Down" "debts" "[I" : Cond) ∈ wsX2_readFrom := qpM 194 (by decide +kernel)
theorem q6s : (.fieldLink RX2 36 "MarchHares$Down" "forms" "I" : Cond) ∈ wsX2_readFrom := qpM 720 (by decide +kernel)
theorem q5V : (.fieldLink RX2 40 "MarchHares$Down" "hares" "I" : Cond) ∈ wsX2_readFrom := qpM 721 (by decide +kernel)
theorem q6i : (.fieldLink RX2 43 "MarchHares$Down" "foxes" "I" : Cond) ∈ wsX2_readFrom := qpM 722 (by decide +kernel)
set_option maxHeartbeats 4000000 in
set_option maxRecDepth 100000 in
theorem qQW {p : Program} {l : Launch} {e : Env} {s : State} {m : MethodId} {args : Array Value} {below : List Frame} {meth : Method} {c : Code} {A : Nat → Prop} (dC : Nat → ClassId) (dI : Nat → Nat → Nat) (cyB cyI cyJ cyP : ClassId) (a0 a1 jkT jbF jha jjQ jhi jjU jla jjy : Nat) (jjT jcI : Value) (jb3 : Int32) (jcq : NI) (Q : Int32 → Int32 → Int32 → NI → Int32 → Int32 → Int32 → Int32 → Int32 → NI → NI → NI → NI → NI → NI → Prop) (K41 : Int32 → Int32 → Int32 → NI → Int32 → Int32 → Int32 → Int32 → Int32 → NI → NI → NI → NI → NI → NI → Int32 → Prop) (hK41 : ∀ (H : Heap) (locs : List Loc) (ls : Array Slot) (jaN jaC jbw : Int32) (jl3 : NI) (jhR jmw jeF jcU jbM : Int32) (jlB jlx jms jlq jiR jiP : NI) (l2 : Int32), va_P (dC, dI) vwCl (qpA a0 jha jhi jjQ jjU jla jjy jkT jjT jaN jaC jbw jmw jkT cyI jl3 a1 jbF jb3 jhR jeF jcI jcU jbM jbF cyB jcq jha cyI jiR jjQ cyI jlB jhi cyI jiP jjU cyI jlx jla cyI jms jjy cyI jlq) H → va_D A (qpA a0 jha jhi jjQ jjU jla jjy jkT jjT jaN jaC jbw jmw jkT cyI jl3 a1 jbF jb3 jhR jeF jcI jcU jbM jbF cyB jcq jha cyI jiR jjQ cyI jlB jhi cyI jiP jjU cyI jlx jla cyI jms jjy cyI jlq) → va_S A s.heap H locs → lv_has ls 3 [(0, .ref a0), (1, .ref a1), (2, .int l2)] → K41 jaN jaC jbw jl3 jhR jmw jeF jcU jbM jlB jlx jms jlq jiR jiP l2 → W p l e (headSpec wsX2_readFrom ({ frames := 6, cells := 0, slots := 0, locals := 130 })).room s m args below meth c H locs 0 0 (MQ below (va_Qv (fun (u : Int32 × Int32 × Int32 × NI × Int32 × Int32 × Int32 × Int32 × Int32 × NI × NI × NI × NI × NI × NI) => Q u.1 u.2.1 u.2.2.1 u.2.2.2.1 u.2.2.2.2.1 u.2.2.2.2.2.1 u.2.2.2.2.2.2.1 u.2.2.2.2.2.2.2.1 u.2.2.2.2.2.2.2.2.1 u.2.2.2.2.2.2.2.2.2.1 u.2.2.2.2.2.2.2.2.2.2.1 u.2.2.2.2.2.2.2.2.2.2.2.1 u.2.2.2.2.2.2.2.2.2.2.2.2.1 u.2.2.2.2.2.2.2.2.2.2.2.2.2.1 u.2.2.2.2.2.2.2.2.2.2.2.2.2.2) (cB (dC, dI) (kT cyB cyI cyJ cyP) A (fun u : Int32 × Int32 × Int32 × NI × Int32 × Int32 × Int32 × Int32 × Int32 × NI × NI × NI × NI × NI × NI => ((qpA a0 jha jhi jjQ jjU jla jjy jkT jjT u.1 u.2.1 u.2.2.1 u.2.2.2.2.2.1 jkT cyI u.2.2.2.1 a1 jbF jb3 u.2.2.2.2.1 u.2.2.2.2.2.2.1 jcI u.2.2.2.2.2.2.2.1 u.2.2.2.2.2.2.2.2.1 jbF cyB jcq jha cyI u.2.2.2.2.2.2.2.2.2.2.2.2.2.1 jjQ cyI u.2.2.2.2.2.2.2.2.2.1 jhi cyI u.2.2.2.2.2.2.2.2.2.2.2.2.2.2 jjU cyI u.2.2.2.2.2.2.2.2.2.2.1 jla cyI u.2.2.2.2.2.2.2.2.2.2.2.1 jjy cyI u.2.2.2.2.2.2.2.2.2.2.2.2.1) : va_W))) A) args s 0 0 A) (F0 m 41 ls [])) (C0 : cfx p s m args meth c cX2_readFrom none wsX2_readFrom RX2 3 A (dC, dI) (kT cyB cyI cyJ cyP) ∧ cfY l s A ∧ zE A s s.heap) : ∀ (H : Heap) (locs : List Loc) (ls : Array Slot) (jaN jaC jbw : Int32) (jl3 : NI) (jhR jmw jeF jcU jbM : Int32) (jlB jlx jms jlq jiR jiP : NI) (l2 s2 : Int32), va_P (dC, dI) vwCl (qpA a0 jha jhi jjQ jjU jla jjy jkT jjT jaN jaC jbw jmw jkT cyI jl3 a1 jbF jb3 jhR jeF jcI jcU jbM jbF cyB jcq jha cyI jiR jjQ cyI jlB jhi cyI jiP jjU cyI jlx jla cyI jms jjy cyI jlq) H → va_D A (qpA a0 jha jhi jjQ jjU jla jjy jkT jjT jaN jaC jbw jmw jkT cyI jl3 a1 jbF jb3 jhR jeF jcI jcU jbM jbF cyB jcq jha cyI jiR jjQ cyI jlB jhi cyI jiP jjU cyI jlx jla cyI jms jjy cyI jlq) → va_S A s.heap H locs → lv_has ls 3 [(0, .ref a0), (1, .ref a1), (2, .int l2)] → qzn jb3 jcq Q K41 jaN jaC jbw jl3 jhR jmw jeF jcU jbM jlB jlx jms jlq jiR jiP l2 s2 → W p l e (headSpec wsX2_readFrom ({ frames := 6, cells := 0, slots := 0, locals := 130 })).room s m args below meth c H locs 0 0 (MQ below (va_Qv (fun (u : Int32 × Int32 × Int32 × NI × Int32 × Int32 × Int32 × Int32 × Int32 × NI × NI × NI × NI × NI × NI) => Q u.1 u.2.1 u.2.2.1 u.2.2.2.1 u.2.2.2.2.1 u.2.2.2.2.2.1 u.2.2.2.2.2.2.1 u.2.2.2.2.2.2.2.1 u.2.2.2.2.2.2.2.2.1 u.2.2.2.2.2.2.2.2.2.1 u.2.2.2.2.2.2.2.2.2.2.1 u.2.2.2.2.2.2.2.2.2.2.2.1 u.2.2.2.2.2.2.2.2.2.2.2.2.1 u.2.2.2.2.2.2.2.2.2.2.2.2.2.1 u.2.2.2.2.2.2.2.2.2.2.2.2.2.2) (cB (dC, dI) (kT cyB cyI cyJ cyP) A (fun u : Int32 × Int32 × Int32 × NI × Int32 × Int32 × Int32 × Int32 × Int32 × NI × NI × NI × NI × NI × NI => ((qpA a0 jha jhi jjQ jjU jla jjy jkT jjT u.1 u.2.1 u.2.2.1 u.2.2.2.2.2.1 jkT cyI u.2.2.2.1 a1 jbF jb3 u.2.2.2.2.1 u.2.2.2.2.2.2.1 jcI u.2.2.2.2.2.2.2.1 u.2.2.2.2.2.2.2.2.1 jbF cyB jcq jha cyI u.2.2.2.2.2.2.2.2.2.2.2.2.2.1 jjQ cyI u.2.2.2.2.2.2.2.2.2.1 jhi cyI u.2.2.2.2.2.2.2.2.2.2.2.2.2.2 jjU cyI u.2.2.2.2.2.2.2.2.2.2.1 jla cyI u.2.2.2.2.2.2.2.2.2.2.2.1 jjy cyI u.2.2.2.2.2.2.2.2.2.2.2.2.1) : va_W))) A) args s 0 0 A) (F0 m 74 ls [.int s2, .ref a1, .ref a0]) := by
  obtain ⟨⟨hx, hb, hr, hts, hown, hlocks, hml, hA, hK, hNw⟩, hY, hE0⟩ := id C0
  have hE := hE0
  intro H locs ls jaN jaC jbw jl3 jhR jmw jeF jcU jbM jlB jlx jms jlq jiR jiP l2 s2 hP hD hS hl hw
  obtain ⟨hCc, hPc, hDc, hFc⟩ := qac (ws' := (qa4S a0 jha jhi jjQ jjU jla jjy jkT jjT jaN jaC jbw jmw a1 jbF jb3 jhR jeF jcI jcU jbM jbF cyB jcq jkT cyI jl3 jjQ cyI jlB jjU cyI jlx jla cyI jms jjy cyI jlq jha cyI jiR jhi cyI jiP)) hP hD hS hA [0, 2, 3, 1, 5, 7, 8, 9, 4, 6] (by decide +kernel) rfl
  refine va_callv (va_runV (As := [.ref a1, .int s2]) (rest := []) ⟨hx, hb, hml, hown, hts⟩ (qae5 l dC dI cyB cyI cyJ cyP a0 a1 jbF jkT jjQ jjU jla jjy jha jhi H.size (jjT) (.int jmw) (jcI) jb3 jcq jhR jeF jcU jbM jl3 jlB jlx jbw jms jlq jaC jiR jiP jaN s2 hw) (cwV 2 hts gX2_readFrom_X2_readClause rfl rfl rfl (by decide +kernel) ⟨nbq rfl, nbq rfl⟩) ⟨qat qsL, va_recv (q := (RX2, TX2, 12)) hK hPc (ci := 2) (q0 := 0) rfl rfl, qbg qsL hPc hK hDc hNw hY hE hS hFc⟩ rfl rfl hl.1 rfl (lv_room (nbq rfl)) (qaa qer 10 rfl) ⟨nbq rfl, nbq rfl⟩) hS (fun q _ h => hFc q h) hFc (fun u t H1 locs ht hvm hw hB hz1 hk1 hS => ?_)
  obtain ⟨x12, x13, x14, x15, f16, f17, f18, x19, f20, f21, x22, f23, f24, x25⟩ := u
  obtain ⟨hP1, hK1, hD1⟩ := hB
  rw [ht] at hP1
  obtain ⟨hP, hD⟩ := qad (wr := []) (w1 := (qa4S a0 jha jhi jjQ jjU jla jjy jkT jjT x25 x22 x19 jmw a1 jbF jb3 x12 x13 jcI x14 x15 jbF cyB jcq jkT cyI f16 jjQ cyI f17 jjU cyI f18 jla cyI f20 jjy cyI f21 jha cyI f23 jhi cyI f24)) (wn := (qpA a0 jha jhi jjQ jjU jla jjy jkT jjT x25 x22 x19 jmw jkT cyI f16 a1 jbF jb3 x12 x13 jcI x14 x15 jbF cyB jcq jha cyI f23 jjQ cyI f17 jhi cyI f24 jjU cyI f18 jla cyI f20 jjy cyI f21)) hP hD [0, 2, 3, 1, 5, 7, 8, 9, 4, 6] [] [0, 3, 1, 2, 8, 4, 9, 5, 6, 7] hCc rfl (by decide +kernel) (by decide +kernel) (by decide +kernel) rfl hk1 hFc hP1 hD1
  generalize H1 = H at hP hS ⊢
  obtain ⟨x26, ex26⟩ : ∃ y : Int32, y = l2 + 1 := ⟨_, rfl⟩
  have hw := hw x26 ex26
  refine lv_iinc (v := x26) (lv' := [(2, .int x26), (0, .ref a0), (1, .ref a1)]) hx hb (qaa qer 11 rfl) hl (k := 2) rfl (by rw [ex26]; rfl) (by decide) rfl (fun ls hl => ?_)
  refine lv_goto (tgt := 41) hx hb (qaa qer 12 rfl) (by decide) ?_
  exact hK41 _ _ _ x25 x22 x19 f16 x12 jmw x13 x14 x15 f17 f18 f20 f21 f23 f24 x26 hP hD hS (lv_sub hl [1, 2, 0] rfl) hw
set_option maxHeartbeats 4000000 in
set_option maxRecDepth 100000 in
theorem qFW {p : Program} {l : Launch} {e : Env} {s : State} {m : MethodId} {args : Array Value} {below : List Frame} {meth : Method} {c : Code} {A : Nat → Prop} (dC : Nat → ClassId) (dI : Nat → Nat → Nat) (cyB cyI cyJ cyP : ClassId) (a0 a1 jkT jbF jha jjQ jhi jjU jla jjy : Nat) (jjT jcI : Value) (jb3 : Int32) (jcq : NI) (Q : Int32 → Int32 → Int32 → NI → Int32 → Int32 → Int32 → Int32 → Int32 → NI → NI → NI → NI → NI → NI → Prop) (C0 : cfx p s m args meth c cX2_readFrom none wsX2_readFrom RX2 3 A (dC, dI) (kT cyB cyI cyJ cyP) ∧ cfY l s A ∧ zE A s s.heap) : ∀ (H : Heap) (locs : List Loc) (ls : Array Slot) (jaN jaC jbw : Int32) (jl3 : NI) (jhR jmw jeF jcU jbM : Int32) (jlB jlx jms jlq jiR jiP : NI), va_P (dC, dI) vwCl (qpA a0 jha jhi jjQ jjU jla jjy jkT jjT jaN jaC jbw jmw jkT cyI jl3 a1 jbF jb3 jhR jeF jcI jcU jbM jbF cyB jcq jha cyI jiR jjQ cyI jlB jhi cyI jiP jjU cyI jlx jla cyI jms jjy cyI jlq) H → va_D A (qpA a0 jha jhi jjQ jjU jla jjy jkT jjT jaN jaC jbw jmw jkT cyI jl3 a1 jbF jb3 jhR jeF jcI jcU jbM jbF cyB jcq jha cyI jiR jjQ cyI jlB jhi cyI jiP jjU cyI jlx jla cyI jms jjy cyI jlq) → va_S A s.heap H locs → lv_has ls 3 [(0, .ref a0)] → qtc jb3 jcq Q jaN jaC jbw jl3 jhR jmw jeF jcU jbM jlB jlx jms jlq jiR jiP → W p l e (headSpec wsX2_readFrom ({ frames := 6, cells := 0, slots := 0, locals := 130 })).room s m args below meth c H locs 0 0 (MQ below (va_Qv (fun (u : Int32 × Int32 × Int32 × NI × Int32 × Int32 × Int32 × Int32 × Int32 × NI × NI × NI × NI × NI × NI) => Q u.1 u.2.1 u.2.2.1 u.2.2.2.1 u.2.2.2.2.1 u.2.2.2.2.2.1 u.2.2.2.2.2.2.1 u.2.2.2.2.2.2.2.1 u.2.2.2.2.2.2.2.2.1 u.2.2.2.2.2.2.2.2.2.1 u.2.2.2.2.2.2.2.2.2.2.1 u.2.2.2.2.2.2.2.2.2.2.2.1 u.2.2.2.2.2.2.2.2.2.2.2.2.1 u.2.2.2.2.2.2.2.2.2.2.2.2.2.1 u.2.2.2.2.2.2.2.2.2.2.2.2.2.2) (cB (dC, dI) (kT cyB cyI cyJ cyP) A (fun u : Int32 × Int32 × Int32 × NI × Int32 × Int32 × Int32 × Int32 × Int32 × NI × NI × NI × NI × NI × NI => ((qpA a0 jha jhi jjQ jjU jla jjy jkT jjT u.1 u.2.1 u.2.2.1 u.2.2.2.2.2.1 jkT cyI u.2.2.2.1 a1 jbF jb3 u.2.2.2.2.1 u.2.2.2.2.2.2.1 jcI u.2.2.2.2.2.2.2.1 u.2.2.2.2.2.2.2.2.1 jbF cyB jcq jha cyI u.2.2.2.2.2.2.2.2.2.2.2.2.2.1 jjQ cyI u.2.2.2.2.2.2.2.2.2.1 jhi cyI u.2.2.2.2.2.2.2.2.2.2.2.2.2.2 jjU cyI u.2.2.2.2.2.2.2.2.2.2.1 jla cyI u.2.2.2.2.2.2.2.2.2.2.2.1 jjy cyI u.2.2.2.2.2.2.2.2.2.2.2.2.1) : va_W))) A) args s 0 0 A) (F0 m 83 ls []) := by
  obtain ⟨⟨hx, hb, hr, hts, hown, hlocks, hml, hA, hK, hNw⟩, hY, hE0⟩ := id C0
  have hE := hE0
  intro H locs ls jaN jaC jbw jl3 jhR jmw jeF jcU jbM jlB jlx jms jlq jiR jiP hP hD hS hl hw
  refine lv_aload_n hx hb (qaa qer 13 rfl) rfl (lv_at hl 0 rfl) ?_
  obtain ⟨hCc, hPc, hDc, hFc⟩ := qac (ws' := (qa4r a0 jha jhi jjQ jjU jla jjy jkT jjT jaN jaC jbw jmw jha cyI jiR jjQ cyI jlB jhi cyI jiP jjU cyI jlx)) hP hD hS hA [0, 4, 5, 6, 7] (by decide +kernel) rfl
  refine va_callv (va_runV (As := []) (rest := []) ⟨hx, hb, hml, hown, hts⟩ (qaGA l dC dI cyB cyI cyJ cyP a0 jha jjQ jhi jjU H.size (.ref jla) (.ref jjy) (.ref jkT) (jjT) (.int jaC) jaN jbw jiR jlB jiP jlx jmw hw) (cwV 0 hts gX2_readFrom_X2_findSafe rfl rfl rfl (by decide +kernel) ⟨nbq rfl, nbq rfl⟩) ⟨qab, va_recv (q := (RX2, TX2, 12)) hK hPc (ci := 2) (q0 := 0) rfl rfl, qae hPc hK hDc hNw⟩ rfl rfl hl.1 rfl (lv_room (nbq rfl)) (qaa qer 14 rfl) ⟨nbq rfl, nbq rfl⟩) hS (fun q _ h => hFc q h) hFc (fun u t H1 locs ht hvm hw hB hz1 hk1 hS => ?_)
  obtain ⟨x11, rfl⟩ : ∃ z, z = u := ⟨_, rfl⟩
  obtain ⟨hP1, hK1, hD1⟩ := hB
  rw [ht] at hP1
  obtain ⟨hP, hD⟩ := qad (wr := [(jkT, .inl (cyI, 36, .inl jl3)), (a1, .inr (8, [.ref jbF, .int jb3, .int jhR, .int jeF, jcI, .int jcU, .int jbM])), (jbF, .inl (cyB, 600, .inl jcq)), (jla, .inl (cyI, 6, .inl jms)), (jjy, .inl (cyI, 6, .inl jlq))]) (w1 := (qa4r a0 jha jhi jjQ jjU jla jjy jkT jjT jaN jaC jbw x11 jha cyI jiR jjQ cyI jlB jhi cyI jiP jjU cyI jlx)) (wn := (qpA a0 jha jhi jjQ jjU jla jjy jkT jjT jaN jaC jbw x11 jkT cyI jl3 a1 jbF jb3 jhR jeF jcI jcU jbM jbF cyB jcq jha cyI jiR jjQ cyI jlB jhi cyI jiP jjU cyI jlx jla cyI jms jjy cyI jlq)) hP hD [0, 4, 5, 6, 7] [1, 2, 3, 8, 9] [5, 0, 1, 2, 6, 7, 8, 9, 3, 4] hCc rfl (by decide +kernel) (by decide +kernel) (by decide +kernel) rfl hk1 hFc hP1 hD1
  generalize H1 = H at hP hS ⊢
  exact ((W.vret hx hb hr (fun t ht hW => ⟨⟨(jaN, jaC, jbw, jl3, jhR, x11, jeF, jcU, jbM, jlB, jlx, jms, jlq, jiR, jiP), rfl, hw, by rw [ht]; exact hP, va_K.moved hW.alike hK, hD⟩, hS.F ht⟩) hS.2.2 (qaa qer 15 rfl)))
set_option maxHeartbeats 4000000 in
set_option maxRecDepth 100000 in
theorem q9s {p : Program} {l : Launch} {e : Env} {s : State} {m : MethodId} {args : Array Value} {below : List Frame} {meth : Method} {c : Code} {A : Nat → Prop} (dC : Nat → ClassId) (dI : Nat → Nat → Nat) (cyB cyI cyJ cyP : ClassId) (a0 a1 jkT jbF jha jjQ jhi jjU jla jjy : Nat) (jjT jcI : Value) (jb3 : Int32) (jcq : NI) (Q : Int32 → Int32 → Int32 → NI → Int32 → Int32 → Int32 → Int32 → Int32 → NI → NI → NI → NI → NI → NI → Prop) (C0 : cfx p s m args meth c cX2_readFrom none wsX2_readFrom RX2 3 A (dC, dI) (kT cyB cyI cyJ cyP) ∧ cfY l s A ∧ zE A s s.heap) : ∀ (n : Nat) (H : Heap) (locs : List Loc) (ls : Array Slot) (jaN jaC jbw : Int32) (jl3 : NI) (jhR jmw jeF jcU jbM : Int32) (jlB jlx jms jlq jiR jiP : NI) (l2 : Int32), va_P (dC, dI) vwCl (qpA a0 jha jhi jjQ jjU jla jjy jkT jjT jaN jaC jbw jmw jkT cyI jl3 a1 jbF jb3 jhR jeF jcI jcU jbM jbF cyB jcq jha cyI jiR jjQ cyI jlB jhi cyI jiP jjU cyI jlx jla cyI jms jjy cyI jlq) H → va_D A (qpA a0 jha jhi jjQ jjU jla jjy jkT jjT jaN jaC jbw jmw jkT cyI jl3 a1 jbF jb3 jhR jeF jcI jcU jbM jbF cyB jcq jha cyI jiR jjQ cyI jlB jhi cyI jiP jjU cyI jlx jla cyI jms jjy cyI jlq) → va_S A s.heap H locs → lv_has ls 3 [(0, .ref a0), (1, .ref a1), (2, .int l2)] → qnN jb3 jcq Q n jaN jaC jbw jl3 jhR jmw jeF jcU jbM jlB jlx jms jlq jiR jiP l2 → W p l e (headSpec wsX2_readFrom ({ frames := 6, cells := 0, slots := 0, locals := 130 })).room s m args below meth c H locs 0 0 (MQ below (va_Qv (fun (u : Int32 × Int32 × Int32 × NI × Int32 × Int32 × Int32 × Int32 × Int32 × NI × NI × NI × NI × NI × NI) => Q u.1 u.2.1 u.2.2.1 u.2.2.2.1 u.2.2.2.2.1 u.2.2.2.2.2.1 u.2.2.2.2.2.2.1 u.2.2.2.2.2.2.2.1 u.2.2.2.2.2.2.2.2.1 u.2.2.2.2.2.2.2.2.2.1 u.2.2.2.2.2.2.2.2.2.2.1 u.2.2.2.2.2.2.2.2.2.2.2.1 u.2.2.2.2.2.2.2.2.2.2.2.2.1 u.2.2.2.2.2.2.2.2.2.2.2.2.2.1 u.2.2.2.2.2.2.2.2.2.2.2.2.2.2) (cB (dC, dI) (kT cyB cyI cyJ cyP) A (fun u : Int32 × Int32 × Int32 × NI × Int32 × Int32 × Int32 × Int32 × Int32 × NI × NI × NI × NI × NI × NI => ((qpA a0 jha jhi jjQ jjU jla jjy jkT jjT u.1 u.2.1 u.2.2.1 u.2.2.2.2.2.1 jkT cyI u.2.2.2.1 a1 jbF jb3 u.2.2.2.2.1 u.2.2.2.2.2.2.1 jcI u.2.2.2.2.2.2.2.1 u.2.2.2.2.2.2.2.2.1 jbF cyB jcq jha cyI u.2.2.2.2.2.2.2.2.2.2.2.2.2.1 jjQ cyI u.2.2.2.2.2.2.2.2.2.1 jhi cyI u.2.2.2.2.2.2.2.2.2.2.2.2.2.2 jjU cyI u.2.2.2.2.2.2.2.2.2.2.1 jla cyI u.2.2.2.2.2.2.2.2.2.2.2.1 jjy cyI u.2.2.2.2.2.2.2.2.2.2.2.2.1) : va_W))) A) args s 0 0 A) (F0 m 41 ls []) := by
  obtain ⟨⟨hx, hb, hr, hts, hown, hlocks, hml, hA, hK, hNw⟩, hY, hE0⟩ := id C0
  have hE := hE0
  intro n
  induction n with
  | zero => intro H locs ls jaN jaC jbw jl3 jhR jmw jeF jcU jbM jlB jlx jms jlq jiR jiP l2 hP hD hS hl hw; exact False.elim hw
  | succ n ih =>
    intro H locs ls jaN jaC jbw jl3 jhR jmw jeF jcU jbM jlB jlx jms jlq jiR jiP l2 hP hD hS hl hw
    refine lv_iload_n hx hb (qaa qdY 9 rfl) rfl (lv_at hl 2 rfl) ?_
    refine lv_bipush (v := 60) hx hb (qaa qdY 10 rfl) (by decide) ?_
    refine lv_icmp_gt (tgt := 83) hx hb (qaa qdY 11 rfl) (by decide) (fun c4 => ?_) (fun c4 => ?_)
    · have hw := hw.1 c4
      exact qFW dC dI cyB cyI cyJ cyP a0 a1 jkT jbF jha jjQ jhi jjU jla jjy jjT jcI jb3 jcq Q C0 _ _ _ jaN jaC jbw jl3 jhR jmw jeF jcU jbM jlB jlx jms jlq jiR jiP hP hD hS (lv_sub hl [0] rfl) hw
    · have hw := hw.2 c4
      refine lv_aload_n hx hb (qaa qdY 12 rfl) rfl (lv_at hl 1 rfl) ?_
      obtain ⟨hCc, hPc, hDc, hFc⟩ := qac (ws' := (qa9A a1 jbF jb3 jhR jeF jcI jcU jbM)) hP hD hS hA [2] (by decide +kernel) rfl
      refine va_calli (va_runV (As := []) (rest := []) ⟨hx, hb, hml, hown, hts⟩ (qjR l dC dI cyB cyI cyJ cyP a1 H.size (.ref jbF) (.int jb3) (.int jhR) (.int jeF) (jcI) (.int jbM) jcU hw) (cwV 0 hts gX2_readFrom_X8_isFaulty rfl rfl rfl (by decide +kernel) ⟨nbq rfl, nbq rfl⟩) ⟨qab, va_recv (q := (RX8, TX8, 7)) hK hPc (ci := 8) (q0 := 0) rfl rfl, qae hPc hK hDc hNw⟩ rfl rfl hl.1 rfl (lv_room (nbq rfl)) (qaa qdY 13 rfl) ⟨nbq rfl, nbq rfl⟩) hS (fun q _ h => hFc q h) hFc (fun r5 u t H1 locs ht hvm hw hB hz1 hk1 hS => ?_)
      obtain ⟨hP1, hK1, hD1⟩ := hB
      rw [ht] at hP1
      obtain ⟨hP, hD⟩ := qad (wr := [(a0, .inr (2, [.ref jha, .ref jhi, .ref jjQ, .ref jjU, .ref jla, .ref jjy, .ref jkT, jjT, .int jaN, .int jaC, .int jbw, .int jmw])), (jkT, .inl (cyI, 36, .inl jl3)), (jbF, .inl (cyB, 600, .inl jcq)), (jha, .inl (cyI, 8, .inl jiR)), (jjQ, .inl (cyI, 4, .inl jlB)), (jhi, .inl (cyI, 8, .inl jiP)), (jjU, .inl (cyI, 4, .inl jlx)), (jla, .inl (cyI, 6, .inl jms)), (jjy, .inl (cyI, 6, .inl jlq))]) (w1 := (qa9A a1 jbF jb3 jhR jeF jcI jcU jbM)) (wn := (qpA a0 jha jhi jjQ jjU jla jjy jkT jjT jaN jaC jbw jmw jkT cyI jl3 a1 jbF jb3 jhR jeF jcI jcU jbM jbF cyB jcq jha cyI jiR jjQ cyI jlB jhi cyI jiP jjU cyI jlx jla cyI jms jjy cyI jlq)) hP hD [2] [0, 1, 3, 4, 5, 6, 7, 8, 9] [0, 1, 9, 2, 3, 4, 5, 6, 7, 8] hCc rfl (by decide +kernel) (by decide +kernel) (by decide +kernel) rfl hk1 hFc hP1 hD1
      generalize H1 = H at hP hS ⊢
      refine lv_if_ne (tgt := 83) hx hb (qaa qdY 14 rfl) (by decide) (fun c6 => ?_) (fun c6 => ?_)
      · have hw := hw.1 c6
        exact qFW dC dI cyB cyI cyJ cyP a0 a1 jkT jbF jha jjQ jhi jjU jla jjy jjT jcI jb3 jcq Q C0 _ _ _ jaN jaC jbw jl3 jhR jmw jeF jcU jbM jlB jlx jms jlq jiR jiP hP hD hS (lv_sub hl [0] rfl) hw
      · have hw := hw.2 c6
        refine lv_aload_n hx hb (qaa qdY 15 rfl) rfl (lv_at hl 1 rfl) ?_
        obtain ⟨hCc, hPc, hDc, hFc⟩ := qac (ws' := (qqX a1 jbF jb3 jhR jeF jcI jcU jbM jbF cyB jcq)) hP hD hS hA [2, 3] (by decide +kernel) rfl
        refine va_calli (va_runV (As := []) (rest := []) ⟨hx, hb, hml, hown, hts⟩ (qN4 l dC dI cyB cyI cyJ cyP a1 jbF H.size (.int jeF) (jcI) (.int jcU) (.int jbM) jb3 jcq jhR hw) (cwV 0 hts gX2_readFrom_X8_isEnded rfl rfl rfl (by decide +kernel) ⟨nbq rfl, nbq rfl⟩) ⟨qab, va_recv (q := (RX8, TX8, 7)) hK hPc (ci := 8) (q0 := 0) rfl rfl, qae hPc hK hDc hNw⟩ rfl rfl hl.1 rfl (lv_room (nbq rfl)) (qaa qer 0 rfl) ⟨nbq rfl, nbq rfl⟩) hS (fun q _ h => hFc q h) hFc (fun r8 u t H1 locs ht hvm hw hB hz1 hk1 hS => ?_)
        obtain ⟨x7, rfl⟩ : ∃ z, z = u := ⟨_, rfl⟩
        obtain ⟨hP1, hK1, hD1⟩ := hB
        rw [ht] at hP1
        obtain ⟨hP, hD⟩ := qad (wr := [(a0, .inr (2, [.ref jha, .ref jhi, .ref jjQ, .ref jjU, .ref jla, .ref jjy, .ref jkT, jjT, .int jaN, .int jaC, .int jbw, .int jmw])), (jkT, .inl (cyI, 36, .inl jl3)), (jha, .inl (cyI, 8, .inl jiR)), (jjQ, .inl (cyI, 4, .inl jlB)), (jhi, .inl (cyI, 8, .inl jiP)), (jjU, .inl (cyI, 4, .inl jlx)), (jla, .inl (cyI, 6, .inl jms)), (jjy, .inl (cyI, 6, .inl jlq))]) (w1 := (qqX a1 jbF jb3 x7 jeF jcI jcU jbM jbF cyB jcq)) (wn := (qpA a0 jha jhi jjQ jjU jla jjy jkT jjT jaN jaC jbw jmw jkT cyI jl3 a1 jbF jb3 x7 jeF jcI jcU jbM jbF cyB jcq jha cyI jiR jjQ cyI jlB jhi cyI jiP jjU cyI jlx jla cyI jms jjy cyI jlq)) hP hD [2, 3] [0, 1, 4, 5, 6, 7, 8, 9] [0, 1, 8, 9, 2, 3, 4, 5, 6, 7] hCc rfl (by decide +kernel) (by decide +kernel) (by decide +kernel) rfl hk1 hFc hP1 hD1
        generalize H1 = H at hP hS ⊢
        refine lv_if_ne (tgt := 83) hx hb (qaa qer 1 rfl) (by decide) (fun c9 => ?_) (fun c9 => ?_)
        · have hw := hw.1 c9
          exact qFW dC dI cyB cyI cyJ cyP a0 a1 jkT jbF jha jjQ jhi jjU jla jjy jjT jcI jb3 jcq Q C0 _ _ _ jaN jaC jbw jl3 x7 jmw jeF jcU jbM jlB jlx jms jlq jiR jiP hP hD hS (lv_sub hl [0] rfl) hw
        · have hw := hw.2 c9
          refine lv_aload_n hx hb (qaa qer 2 rfl) rfl (lv_at hl 0 rfl) ?_
          refine lv_aload_n hx hb (qaa qer 3 rfl) rfl (lv_at hl 1 rfl) ?_
          refine lv_iload_n hx hb (qaa qer 4 rfl) rfl (lv_at hl 2 rfl) ?_
          refine lv_bipush (v := 60) hx hb (qaa qer 5 rfl) (by decide) ?_
          refine lv_icmp_ne (tgt := 73) hx hb (qaa qer 6 rfl) (by decide) (fun c10 => ?_) (fun c10 => ?_)
          · have hw := hw.1 c10
            refine lv_iconst (v := 0) hx hb (qaa qer 9 rfl) (by decide) ?_
            exact qQW dC dI cyB cyI cyJ cyP a0 a1 jkT jbF jha jjQ jhi jjU jla jjy jjT jcI jb3 jcq Q (qnN jb3 jcq Q n) ih C0 _ _ _ jaN jaC jbw jl3 x7 jmw jeF jcU jbM jlB jlx jms jlq jiR jiP l2 0 hP hD hS (lv_sub hl [0, 1, 2] rfl) hw
          · have hw := hw.2 c10
            refine lv_iconst (v := 1) hx hb (qaa qer 7 rfl) (by decide) ?_
            refine lv_goto (tgt := 74) hx hb (qaa qer 8 rfl) (by decide) ?_
            exact qQW dC dI cyB cyI cyJ cyP a0 a1 jkT jbF jha jjQ jhi jjU jla jjy jjT jcI jb3 jcq Q (qnN jb3 jcq Q n) ih C0 _ _ _ jaN jaC jbw jl3 x7 jmw jeF jcU jbM jlB jlx jms jlq jiR jiP l2 1 hP hD hS (lv_sub hl [0, 1, 2] rfl) hw
set_option maxHeartbeats 4000000 in
set_option maxRecDepth 100000 in
theorem q8G {p : Program} {l : Launch} {e : Env} {s : State} {m : MethodId} {args : Array Value} {below : List Frame} {meth : Method} {c : Code} {A : Nat → Prop} (dC : Nat → ClassId) (dI : Nat → Nat → Nat) (cyB cyI cyJ cyP : ClassId) (a0 a1 jkT jbF jha jjQ jhi jjU jla jjy : Nat) (jjT jcI : Value) (jb3 : Int32) (jcq : NI) (Q : Int32 → Int32 → Int32 → NI → Int32 → Int32 → Int32 → Int32 → Int32 → NI → NI → NI → NI → NI → NI → Prop) (C0 : cfx p s m args meth c cX2_readFrom none wsX2_readFrom RX2 3 A (dC, dI) (kT cyB cyI cyJ cyP) ∧ cfY l s A ∧ zE A s s.heap) : ∀ (n : Nat) (H : Heap) (locs : List Loc) (ls : Array Slot) (jaN jaC jbw : Int32) (jl3 : NI) (jhR jmw jeF jcU jbM : Int32) (jlB jlx jms jlq jiR jiP : NI) (l2 : Int32), va_P (dC, dI) vwCl (qpA a0 jha jhi jjQ jjU jla jjy jkT jjT jaN jaC jbw jmw jkT cyI jl3 a1 jbF jb3 jhR jeF jcI jcU jbM jbF cyB jcq jha cyI jiR jjQ cyI jlB jhi cyI jiP jjU cyI jlx jla cyI jms jjy cyI jlq) H → va_D A (qpA a0 jha jhi jjQ jjU jla jjy jkT jjT jaN jaC jbw jmw jkT cyI jl3 a1 jbF jb3 jhR jeF jcI jcU jbM jbF cyB jcq jha cyI jiR jjQ cyI jlB jhi cyI jiP jjU cyI jlx jla cyI jms jjy cyI jlq) → va_S A s.heap H locs → lv_has ls 3 [(0, .ref a0), (1, .ref a1), (2, .int l2)] → qzo jb3 jcq Q n jaN jaC jbw jl3 jhR jmw jeF jcU jbM jlB jlx jms jlq jiR jiP l2 → W p l e (headSpec wsX2_readFrom ({ frames := 6, cells := 0, slots := 0, locals := 130 })).room s m args below meth c H locs 0 0 (MQ below (va_Qv (fun (u : Int32 × Int32 × Int32 × NI × Int32 × Int32 × Int32 × Int32 × Int32 × NI × NI × NI × NI × NI × NI) => Q u.1 u.2.1 u.2.2.1 u.2.2.2.1 u.2.2.2.2.1 u.2.2.2.2.2.1 u.2.2.2.2.2.2.1 u.2.2.2.2.2.2.2.1 u.2.2.2.2.2.2.2.2.1 u.2.2.2.2.2.2.2.2.2.1 u.2.2.2.2.2.2.2.2.2.2.1 u.2.2.2.2.2.2.2.2.2.2.2.1 u.2.2.2.2.2.2.2.2.2.2.2.2.1 u.2.2.2.2.2.2.2.2.2.2.2.2.2.1 u.2.2.2.2.2.2.2.2.2.2.2.2.2.2) (cB (dC, dI) (kT cyB cyI cyJ cyP) A (fun u : Int32 × Int32 × Int32 × NI × Int32 × Int32 × Int32 × Int32 × Int32 × NI × NI × NI × NI × NI × NI => ((qpA a0 jha jhi jjQ jjU jla jjy jkT jjT u.1 u.2.1 u.2.2.1 u.2.2.2.2.2.1 jkT cyI u.2.2.2.1 a1 jbF jb3 u.2.2.2.2.1 u.2.2.2.2.2.2.1 jcI u.2.2.2.2.2.2.2.1 u.2.2.2.2.2.2.2.2.1 jbF cyB jcq jha cyI u.2.2.2.2.2.2.2.2.2.2.2.2.2.1 jjQ cyI u.2.2.2.2.2.2.2.2.2.1 jhi cyI u.2.2.2.2.2.2.2.2.2.2.2.2.2.2 jjU cyI u.2.2.2.2.2.2.2.2.2.2.1 jla cyI u.2.2.2.2.2.2.2.2.2.2.2.1 jjy cyI u.2.2.2.2.2.2.2.2.2.2.2.2.1) : va_W))) A) args s 0 0 A) (F0 m 17 ls []) := by
  obtain ⟨⟨hx, hb, hr, hts, hown, hlocks, hml, hA, hK, hNw⟩, hY, hE0⟩ := id C0
  have hE := hE0
  intro n
  induction n with
  | zero => intro H locs ls jaN jaC jbw jl3 jhR jmw jeF jcU jbM jlB jlx jms jlq jiR jiP l2 hP hD hS hl hw; exact False.elim hw
  | succ n ih =>
    intro H locs ls jaN jaC jbw jl3 jhR jmw jeF jcU jbM jlB jlx jms jlq jiR jiP l2 hP hD hS hl hw
    refine lv_iload_n hx hb (qaa qfJ 11 rfl) rfl (lv_at hl 2 rfl) ?_
    refine lv_aload_n hx hb (qaa qfJ 12 rfl) rfl (lv_at hl 0 rfl) ?_
    refine va_get (D := (dC, dI)) (ci := 2) (v := .ref jkT) (C := RX2) (T := TX2) (N := 12) hx hb hts qv7 hown hK hP 0 rfl rfl 6 (by decide) (hts _ qNN) (fun _ h9 => h9) rfl (qaa qfJ 13 rfl) ?_
    refine va_alen (v := 36) hx hb hK hP 1 1 rfl rfl rfl (qaa qfJ 14 rfl) ?_
    refine lv_icmp_ge (tgt := 39) hx hb (qaa qfJ 15 rfl) (by decide) (fun c1 => ?_) (fun c1 => ?_)
    · have hw := hw.1 c1
      refine lv_iconst (v := 0) hx hb (qaa qdY 7 rfl) (by decide) ?_
      refine lv_istore_n (lv' := [(2, .int 0), (0, .ref a0), (1, .ref a1)]) hx hb (qaa qdY 8 rfl) rfl hl (by decide) rfl (fun ls hl => ?_)
      obtain ⟨n9, hw⟩ := hw
      exact q9s dC dI cyB cyI cyJ cyP a0 a1 jkT jbF jha jjQ jhi jjU jla jjy jjT jcI jb3 jcq Q C0 n9 _ _ _ jaN jaC jbw jl3 jhR jmw jeF jcU jbM jlB jlx jms jlq jiR jiP 0 hP hD hS (lv_sub hl [1, 2, 0] rfl) hw
    · have hw := hw.2 c1
      refine lv_aload_n hx hb (qaa qdY 0 rfl) rfl (lv_at hl 0 rfl) ?_
      refine va_get (D := (dC, dI)) (ci := 2) (v := .ref jkT) (C := RX2) (T := TX2) (N := 12) hx hb hts qv7 hown hK hP 0 rfl rfl 6 (by decide) (hts _ qNN) (fun _ h9 => h9) rfl (qaa qdY 1 rfl) ?_
      refine lv_iload_n hx hb (qaa qdY 2 rfl) rfl (lv_at hl 2 rfl) ?_
      refine lv_iconst (v := 0) hx hb (qaa qdY 3 rfl) (by decide) ?_
      obtain ⟨hi9, hw⟩ := hw
      refine va_iast hx hb hK hP hD hS 1 1 rfl rfl hi9 (qaa qdY 4 rfl) (fun H locs hP hD hS => ?_)
      obtain ⟨f2, ef2⟩ : ∃ y : NI, y = upd jl3 l2.toNatClampNeg 0 := ⟨_, rfl⟩
      have hw := hw f2 ef2
      have hP : va_P (dC, dI) vwCl (qpA a0 jha jhi jjQ jjU jla jjy jkT jjT jaN jaC jbw jmw jkT cyI f2 a1 jbF jb3 jhR jeF jcI jcU jbM jbF cyB jcq jha cyI jiR jjQ cyI jlB jhi cyI jiP jjU cyI jlx jla cyI jms jjy cyI jlq) H := by rw [ef2]; exact hP
      have hD : va_D A (qpA a0 jha jhi jjQ jjU jla jjy jkT jjT jaN jaC jbw jmw jkT cyI f2 a1 jbF jb3 jhR jeF jcI jcU jbM jbF cyB jcq jha cyI jiR jjQ cyI jlB jhi cyI jiP jjU cyI jlx jla cyI jms jjy cyI jlq) := by rw [ef2]; exact hD
      obtain ⟨x3, ex3⟩ : ∃ y : Int32, y = l2 + 1 := ⟨_, rfl⟩
      have hw := hw x3 ex3
      refine lv_iinc (v := x3) (lv' := [(2, .int x3), (0, .ref a0), (1, .ref a1)]) hx hb (qaa qdY 5 rfl) hl (k := 2) rfl (by rw [ex3]; rfl) (by decide) rfl (fun ls hl => ?_)
      refine lv_goto (tgt := 17) hx hb (qaa qdY 6 rfl) (by decide) ?_
      exact ih _ _ _ jaN jaC jbw f2 jhR jmw jeF jcU jbM jlB jlx jms jlq jiR jiP x3 hP hD hS (lv_sub hl [1, 2, 0] rfl) hw
set_option maxHeartbeats 4000000 in
set_option maxRecDepth 100000 in
theorem qar0 (l : Launch) (dC : Nat → ClassId) (dI : Nat → Nat → Nat) (cyB cyI cyJ cyP : ClassId) (a0 a1 jkT jbF jha jjQ jhi jjU jla jjy sz : Nat) (jjT jcI : Value) (jb3 : Int32) (jcq : NI) (jaN jaC jbw : Int32) (jl3 : NI) (jhR jmw jeF jcU jbM : Int32) (jlB jlx jms jlq jiR jiP : NI) {Q : Int32 → Int32 → Int32 → NI → Int32 → Int32 → Int32 → Int32 → Int32 → NI → NI → NI → NI → NI → NI → Prop} (hw : qMw jb3 jcq jaN jaC jbw jl3 jhR jmw jeF jcU jbM jlB jlx jms jlq jiR jiP Q) : Met l yX2_readFrom wsX2_readFrom ({ frames := 6, cells := 0, slots := 0, locals := 130 }) (va_Pc [.ref a0, .ref a1] (cPs (zE) l (dC, dI) (kT cyB cyI cyJ cyP) (qpA a0 jha jhi jjQ jjU jla jjy jkT jjT jaN jaC jbw jmw jkT cyI jl3 a1 jbF jb3 jhR jeF jcI jcU jbM jbF cyB jcq jha cyI jiR jjQ cyI jlB jhi cyI jiP jjU cyI jlx jla cyI jms jjy cyI jlq) sz)) (va_Qv (fun (u : Int32 × Int32 × Int32 × NI × Int32 × Int32 × Int32 × Int32 × Int32 × NI × NI × NI × NI × NI × NI) => Q u.1 u.2.1 u.2.2.1 u.2.2.2.1 u.2.2.2.2.1 u.2.2.2.2.2.1 u.2.2.2.2.2.2.1 u.2.2.2.2.2.2.2.1 u.2.2.2.2.2.2.2.2.1 u.2.2.2.2.2.2.2.2.2.1 u.2.2.2.2.2.2.2.2.2.2.1 u.2.2.2.2.2.2.2.2.2.2.2.1 u.2.2.2.2.2.2.2.2.2.2.2.2.1 u.2.2.2.2.2.2.2.2.2.2.2.2.2.1 u.2.2.2.2.2.2.2.2.2.2.2.2.2.2) (cB (dC, dI) (kT cyB cyI cyJ cyP) (va_A (qpA a0 jha jhi jjQ jjU jla jjy jkT jjT jaN jaC jbw jmw jkT cyI jl3 a1 jbF jb3 jhR jeF jcI jcU jbM jbF cyB jcq jha cyI jiR jjQ cyI jlB jhi cyI jiP jjU cyI jlx jla cyI jms jjy cyI jlq) sz) (fun u : Int32 × Int32 × Int32 × NI × Int32 × Int32 × Int32 × Int32 × Int32 × NI × NI × NI × NI × NI × NI => ((qpA a0 jha jhi jjQ jjU jla jjy jkT jjT u.1 u.2.1 u.2.2.1 u.2.2.2.2.2.1 jkT cyI u.2.2.2.1 a1 jbF jb3 u.2.2.2.2.1 u.2.2.2.2.2.2.1 jcI u.2.2.2.2.2.2.2.1 u.2.2.2.2.2.2.2.2.1 jbF cyB jcq jha cyI u.2.2.2.2.2.2.2.2.2.2.2.2.2.1 jjQ cyI u.2.2.2.2.2.2.2.2.2.1 jhi cyI u.2.2.2.2.2.2.2.2.2.2.2.2.2.2 jjU cyI u.2.2.2.2.2.2.2.2.2.2.1 jla cyI u.2.2.2.2.2.2.2.2.2.2.2.1 jjy cyI u.2.2.2.2.2.2.2.2.2.2.2.2.1) : va_W))) (va_A (qpA a0 jha jhi jjQ jjU jla jjy jkT jjT jaN jaC jbw jmw jkT cyI jl3 a1 jbF jb3 jhR jeF jcI jcU jbM jbF cyB jcq jha cyI jiR jjQ cyI jlB jhi cyI jiP jjU cyI jlx jla cyI jms jjy cyI jlq) sz)) 0 0 (va_A (qpA a0 jha jhi jjQ jjU jla jjy jkT jjT jaN jaC jbw jmw jkT cyI jl3 a1 jbF jb3 jhR jeF jcI jcU jbM jbF cyB jcq jha cyI jiR jjQ cyI jlB jhi cyI jiP jjU cyI jlx jla cyI jms jjy cyI jlq) sz) := by
  refine Met.ofW (cc := cX2_readFrom) (maxL := 3) (ret := none) (by decide) rfl ?_
  intro p e s m args below meth c s₁ B hml hv
  obtain ⟨rfl, ⟨hsz, hP, hK, hD0, hNw, hXl, hXu, hXn, hXt⟩, hE0⟩ := hv
  have hx := B.exec
  have hb := B.bytes
  have hr := B.returns
  have hts := atoms_spec (ws := wsX2_readFrom) B.pre
  have hown : s.vm.findClass RX2 = some m.cls := findClass_of_methodNamed B.named
  have hlocks := B.notSynchronized
  subst hsz
  have hD := hD0.self (sz := s.heap.size)
  generalize hAe : va_A (qpA a0 jha jhi jjQ jjU jla jjy jkT jjT jaN jaC jbw jmw jkT cyI jl3 a1 jbF jb3 jhR jeF jcI jcU jbM jbF cyB jcq jha cyI jiR jjQ cyI jlB jhi cyI jiP jjU cyI jlx jla cyI jms jjy cyI jlq) s.heap.size = A at hD hXu hXn hE0 ⊢
  have hA : ∀ q : Nat, s.heap.size ≤ q → A q := fun q h => by rw [← hAe]; exact Or.inr h
  have hS : va_S A s.heap s.heap [] := va_S.rf
  have hP : va_P (dC, dI) vwCl (qpA a0 jha jhi jjQ jjU jla jjy jkT jjT jaN jaC jbw jmw jkT cyI jl3 a1 jbF jb3 jhR jeF jcI jcU jbM jbF cyB jcq jha cyI jiR jjQ cyI jlB jhi cyI jiP jjU cyI jlx jla cyI jms jjy cyI jlq) s.heap := hP
  have hl := lv_entry ([.ref a0, .ref a1]) (n := 3) (nbq rfl)
  rw [lg_entry_eq]
  generalize (lg_sl ([.ref a0, .ref a1]) ++ List.replicate (3 - (lg_sl ([.ref a0, .ref a1])).length) Slot.unset).toArray = ls at hl ⊢
  have hl : lv_has ls 3 [(0, .ref a0), (1, .ref a1)] := hl
  have hY : cfY l s A := ⟨hXl, hXu, hXn, hXt⟩
  have C0 : cfx p s m _ meth c cX2_readFrom none wsX2_readFrom RX2 3 A (dC, dI) (kT cyB cyI cyJ cyP) ∧ cfY l s A ∧ zE A s s.heap := ⟨⟨hx, hb, hr, hts, hown, hlocks, hml, hA, hK, hNw⟩, hY, hE0⟩
  have hE := hE0
  clear hAe
  obtain ⟨H, hH⟩ : ∃ H, H = s.heap := ⟨_, rfl⟩
  rw [← hH] at hP ⊢
  have hS : va_S A s.heap H [] := by rw [hH]; exact va_S.rf
  have hS := hS
  refine lv_aload_n hx hb (qaa qfJ 0 rfl) rfl (lv_at hl 0 rfl) ?_
  refine lv_iconst (v := 0) hx hb (qaa qfJ 1 rfl) (by decide) ?_
  refine va_put (D := (dC, dI)) (ci := 2) (v := .int 0) (ty := .int) (C := RX2) (T := TX2) (N := 12) hx hb hts qv7 tyX2 tyX2_ok nmX2 hown hK hP hD hS 0 rfl rfl 8 (by decide) (hts _ q6s) (fun _ h9 => h9) rfl (by decide +kernel) rfl rfl (nbq rfl) (qaa qfJ 2 rfl) (fun H locs hP hD hS => ?_)
  have hP : va_P (dC, dI) vwCl (qpA a0 jha jhi jjQ jjU jla jjy jkT jjT 0 jaC jbw jmw jkT cyI jl3 a1 jbF jb3 jhR jeF jcI jcU jbM jbF cyB jcq jha cyI jiR jjQ cyI jlB jhi cyI jiP jjU cyI jlx jla cyI jms jjy cyI jlq) H := hP
  have hD : va_D A (qpA a0 jha jhi jjQ jjU jla jjy jkT jjT 0 jaC jbw jmw jkT cyI jl3 a1 jbF jb3 jhR jeF jcI jcU jbM jbF cyB jcq jha cyI jiR jjQ cyI jlB jhi cyI jiP jjU cyI jlx jla cyI jms jjy cyI jlq) := hD
  refine lv_aload_n hx hb (qaa qfJ 3 rfl) rfl (lv_at hl 0 rfl) ?_
  refine lv_iconst (v := 0) hx hb (qaa qfJ 4 rfl) (by decide) ?_
  refine va_put (D := (dC, dI)) (ci := 2) (v := .int 0) (ty := .int) (C := RX2) (T := TX2) (N := 12) hx hb hts qv7 tyX2 tyX2_ok nmX2 hown hK hP hD hS 0 rfl rfl 9 (by decide) (hts _ q5V) (fun _ h9 => h9) rfl (by decide +kernel) rfl rfl (nbq rfl) (qaa qfJ 5 rfl) (fun H locs hP hD hS => ?_)
  have hP : va_P (dC, dI) vwCl (qpA a0 jha jhi jjQ jjU jla jjy jkT jjT 0 0 jbw jmw jkT cyI jl3 a1 jbF jb3 jhR jeF jcI jcU jbM jbF cyB jcq jha cyI jiR jjQ cyI jlB jhi cyI jiP jjU cyI jlx jla cyI jms jjy cyI jlq) H := hP
  have hD : va_D A (qpA a0 jha jhi jjQ jjU jla jjy jkT jjT 0 0 jbw jmw jkT cyI jl3 a1 jbF jb3 jhR jeF jcI jcU jbM jbF cyB jcq jha cyI jiR jjQ cyI jlB jhi cyI jiP jjU cyI jlx jla cyI jms jjy cyI jlq) := hD
  refine lv_aload_n hx hb (qaa qfJ 6 rfl) rfl (lv_at hl 0 rfl) ?_
  refine lv_iconst (v := 0) hx hb (qaa qfJ 7 rfl) (by decide) ?_
  refine va_put (D := (dC, dI)) (ci := 2) (v := .int 0) (ty := .int) (C := RX2) (T := TX2) (N := 12) hx hb hts qv7 tyX2 tyX2_ok nmX2 hown hK hP hD hS 0 rfl rfl 10 (by decide) (hts _ q6i) (fun _ h9 => h9) rfl (by decide +kernel) rfl rfl (nbq rfl) (qaa qfJ 8 rfl) (fun H locs hP hD hS => ?_)
  have hP : va_P (dC, dI) vwCl (qpA a0 jha jhi jjQ jjU jla jjy jkT jjT 0 0 0 jmw jkT cyI jl3 a1 jbF jb3 jhR jeF jcI jcU jbM jbF cyB jcq jha cyI jiR jjQ cyI jlB jhi cyI jiP jjU cyI jlx jla cyI jms jjy cyI jlq) H := hP
  have hD : va_D A (qpA a0 jha jhi jjQ jjU jla jjy jkT jjT 0 0 0 jmw jkT cyI jl3 a1 jbF jb3 jhR jeF jcI jcU jbM jbF cyB jcq jha cyI jiR jjQ cyI jlB jhi cyI jiP jjU cyI jlx jla cyI jms jjy cyI jlq) := hD
  refine lv_iconst (v := 0) hx hb (qaa qfJ 9 rfl) (by decide) ?_
  refine lv_istore_n (lv' := [(2, .int 0), (0, .ref a0), (1, .ref a1)]) hx hb (qaa qfJ 10 rfl) rfl hl (by decide) rfl (fun ls hl => ?_)
  obtain ⟨n9, hw⟩ := hw
  exact q8G dC dI cyB cyI cyJ cyP a0 a1 jkT jbF jha jjQ jhi jjU jla jjy jjT jcI jb3 jcq Q C0 n9 _ _ _ 0 0 0 jl3 jhR jmw jeF jcU jbM jlB jlx jms jlq jiR jiP 0 hP hD hS (lv_sub hl [1, 2, 0] rfl) hw
theorem qdD : ∀ w ∈ u_ws RX10 TX10 19, w ∈ wsX10_down := uiM qh0 qyE (by decide +kernel)
theorem qap6 : ∀ w ∈ u_ws RX2 TX2 12, w ∈ wsX10_down := uiM qh0 qLg (by decide +kernel)
theorem qaqB : ∀ w ∈ u_ws RX5 TX5 2, w ∈ wsX10_down := uiM qh0 euX5 (by decide +kernel)
theorem qasE : ∀ w ∈ u_ws RX8 TX8 7, w ∈ wsX10_down := uiM qh0 euX8 (by decide +kernel)
theorem qJt : (.fieldLink RX10 10 "MarchHares" "tape" "LMarchHares$Tape;" : Cond) ∈ wsX10_down := qh0 16 (by decide +kernel)
theorem qagy : (.fieldLink RX10 120 "MarchHares$Tape" "fault" "I" : Cond) ∈ wsX10_down := qh0 640 (by decide +kernel)
theorem qafq : (.fieldLink RX10 132 "MarchHares$Past" "kept" "I" : Cond) ∈ wsX10_down := qh0 641 (by decide +kernel)
theorem qafn : (.fieldLink RX10 135 "MarchHares" "imagesKept" "I" : Cond) ∈ wsX10_down := qh0 642 (by decide +kernel)
theorem qaeA : (.fieldLink RX10 138 "MarchHares" "refusedSteps" "I" : Cond) ∈ wsX10_down := qh0 643 (by decide +kernel)
theorem qah9 : (.fieldLink RX10 141 "MarchHares$Down" "hares" "I" : Cond) ∈ wsX10_down := qh0 644 (by decide +kernel)
theorem qCN : (.fieldLink RX10 19 "MarchHares" "ground" "LMarchHares$Down;" : Cond) ∈ wsX10_down := qh0 20 (by decide +kernel)
theorem qJ6 : (.fieldLink RX10 23 "MarchHares" "spareGround" "LMarchHares$Down;" : Cond) ∈ wsX10_down := qh0 21 (by decide +kernel)
theorem qU1 : (.fieldLink RX10 29 "MarchHares" "rule" "LMarchHares$Law;" : Cond) ∈ wsX10_down := qh0 65 (by decide +kernel)
theorem qanb : (.fieldLink RX10 39 "MarchHares" "lines" "LMarchHares$Book;" : Cond) ∈ wsX10_down := qh0 70 (by decide +kernel)
theorem qajm : (.fieldLink RX10 58 "MarchHares" "now" "LMarchHares$Days;" : Cond) ∈ wsX10_down := qh0 79 (by decide +kernel)
theorem qak1 : (.fieldLink RX10 68 "MarchHares" "past" "LMarchHares$Past;" : Cond) ∈ wsX10_down := qh0 84 (by decide +kernel)
set_option maxHeartbeats 4000000 in
set_option maxRecDepth 100000 in
theorem qaM3 (l : Launch) (dC : Nat → ClassId) (dI : Nat → Nat → Nat) (cyB cyI cyJ cyP : ClassId) (a0 jaW jg9 jkg jfZ jkh jku jki jkv jkq jjG jaR jb6 jbW jbL jg2 jiM jaT jbb jeG sz : Nat) (jbc ja3 jbH jbO jac jbI jbl jbn jbA jmj jnn jnb jbr jm2 : Value) (ji4 : NI) (jbz jk4 jlW jll jj0 jlm jjE jno jnp jnq : Int32) (jnr : NI) (jnB : Int32) (jnC jnD jnE jmV jns jnt : NI) (jdh : Int32) (jdN jdi : NI) (jlT : Int32) (jk5 jbQ : NI) (jn3 jmF : Value) (jje jkc jcn p1 : Int32) {E : String → Int32 → Int32 → Int32 → Int32 → Int32 → Int32 → Int32 → Int32 → Int32 → Int32 → NI → Int32 → NI → NI → NI → NI → NI → NI → Value → Value → Int32 → NI → NI → Int32 → NI → NI → Value → Value → Int32 → Int32 → Int32 → Prop} {Q : Int32 → Int32 → Int32 → Int32 → Int32 → Int32 → Int32 → Int32 → Int32 → Int32 → Int32 → NI → Int32 → NI → NI → NI → NI → NI → NI → Value → Value → Int32 → NI → NI → Int32 → NI → NI → Value → Value → Int32 → Int32 → Int32 → Prop} (hw : qWB jaR jg9 jb6 ji4 jbz jk4 jlW jll jj0 jlm jjE jno jnp jnq jnr jnB jnC jnD jnE jmV jns jnt (.ref jaR) (.ref jg9) jdh jdN jdi jlT jk5 jbQ jn3 jmF jje jkc jcn p1 E Q) : vx_Met l yX10_down wsX10_down ({ frames := 9, cells := 1, slots := 6, locals := 186 }) (va_Pc [.ref a0, .int p1] (cPs (zE) l (dC, dI) (kT cyB cyI cyJ cyP) (qzN a0 jaW jaR jg9 jb6 jbc jg2 ja3 jbH jaT jbO jeG jac jbI jbl jbn jkc jcn jbA jbz jaW jfZ jk4 jlW jll jj0 jlm jjE jg9 jkh jki jku jkv jkq jjG jkg jmj jno jnp jnq jnB jkg cyI jnr jfZ cyB ji4 jkh cyI jns jku cyI jnC jki cyI jnt jkv cyI jnD jkq cyI jnE jjG cyI jmV jb6 jbW jbL jnn jnb jdh jbW cyI jdN jbL cyI jdi jg2 jiM jlT jiM cyI jk5 jaT jbb jbr jn3 jmF jbb cyI jbQ jeG jm2 jje) sz)) (va_Qi (fun (r : Int32) (u : Int32 × Int32 × Int32 × Int32 × Int32 × Int32 × Int32 × Int32 × Int32 × Int32 × NI × Int32 × NI × NI × NI × NI × NI × NI × Value × Value × Int32 × NI × NI × Int32 × NI × NI × Value × Value × Int32 × Int32 × Int32) => Q r u.1 u.2.1 u.2.2.1 u.2.2.2.1 u.2.2.2.2.1 u.2.2.2.2.2.1 u.2.2.2.2.2.2.1 u.2.2.2.2.2.2.2.1 u.2.2.2.2.2.2.2.2.1 u.2.2.2.2.2.2.2.2.2.1 u.2.2.2.2.2.2.2.2.2.2.1 u.2.2.2.2.2.2.2.2.2.2.2.1 u.2.2.2.2.2.2.2.2.2.2.2.2.1 u.2.2.2.2.2.2.2.2.2.2.2.2.2.1 u.2.2.2.2.2.2.2.2.2.2.2.2.2.2.1 u.2.2.2.2.2.2.2.2.2.2.2.2.2.2.2.1 u.2.2.2.2.2.2.2.2.2.2.2.2.2.2.2.2.1 u.2.2.2.2.2.2.2.2.2.2.2.2.2.2.2.2.2.1 u.2.2.2.2.2.2.2.2.2.2.2.2.2.2.2.2.2.2.1 u.2.2.2.2.2.2.2.2.2.2.2.2.2.2.2.2.2.2.2.1 u.2.2.2.2.2.2.2.2.2.2.2.2.2.2.2.2.2.2.2.2.1 u.2.2.2.2.2.2.2.2.2.2.2.2.2.2.2.2.2.2.2.2.2.1 u.2.2.2.2.2.2.2.2.2.2.2.2.2.2.2.2.2.2.2.2.2.2.1 u.2.2.2.2.2.2.2.2.2.2.2.2.2.2.2.2.2.2.2.2.2.2.2.1 u.2.2.2.2.2.2.2.2.2.2.2.2.2.2.2.2.2.2.2.2.2.2.2.2.1 u.2.2.2.2.2.2.2.2.2.2.2.2.2.2.2.2.2.2.2.2.2.2.2.2.2.1 u.2.2.2.2.2.2.2.2.2.2.2.2.2.2.2.2.2.2.2.2.2.2.2.2.2.2.1 u.2.2.2.2.2.2.2.2.2.2.2.2.2.2.2.2.2.2.2.2.2.2.2.2.2.2.2.1 u.2.2.2.2.2.2.2.2.2.2.2.2.2.2.2.2.2.2.2.2.2.2.2.2.2.2.2.2.1 u.2.2.2.2.2.2.2.2.2.2.2.2.2.2.2.2.2.2.2.2.2.2.2.2.2.2.2.2.2.1 u.2.2.2.2.2.2.2.2.2.2.2.2.2.2.2.2.2.2.2.2.2.2.2.2.2.2.2.2.2.2) (cB (dC, dI) (kT cyB cyI cyJ cyP) (va_A (qzN a0 jaW jaR jg9 jb6 jbc jg2 ja3 jbH jaT jbO jeG jac jbI jbl jbn jkc jcn jbA jbz jaW jfZ jk4 jlW jll jj0 jlm jjE jg9 jkh jki jku jkv jkq jjG jkg jmj jno jnp jnq jnB jkg cyI jnr jfZ cyB ji4 jkh cyI jns jku cyI jnC jki cyI jnt jkv cyI jnD jkq cyI jnE jjG cyI jmV jb6 jbW jbL jnn jnb jdh jbW cyI jdN jbL cyI jdi jg2 jiM jlT jiM cyI jk5 jaT jbb jbr jn3 jmF jbb cyI jbQ jeG jm2 jje) sz) (fun u : Int32 × Int32 × Int32 × Int32 × Int32 × Int32 × Int32 × Int32 × Int32 × Int32 × NI × Int32 × NI × NI × NI × NI × NI × NI × Value × Value × Int32 × NI × NI × Int32 × NI × NI × Value × Value × Int32 × Int32 × Int32 => ((qaSp a0 jaW u.2.2.2.2.2.2.2.2.2.2.2.2.2.2.2.2.2.2.1 u.2.2.2.2.2.2.2.2.2.2.2.2.2.2.2.2.2.2.2.1 jb6 jbc jg2 ja3 jbH jaT jbO jeG jac jbI jbl jbn u.2.2.2.2.2.2.2.2.2.2.2.2.2.2.2.2.2.2.2.2.2.2.2.2.2.2.2.2.2.1 u.2.2.2.2.2.2.2.2.2.2.2.2.2.2.2.2.2.2.2.2.2.2.2.2.2.2.2.2.2.2 jbA u.1 jaW jfZ u.2.1 u.2.2.1 u.2.2.2.1 u.2.2.2.2.1 u.2.2.2.2.2.1 u.2.2.2.2.2.2.1 jg9 jkh jki jku jkv jkq jjG jkg jmj u.2.2.2.2.2.2.2.1 u.2.2.2.2.2.2.2.2.1 u.2.2.2.2.2.2.2.2.2.1 u.2.2.2.2.2.2.2.2.2.2.2.1 jkg cyI u.2.2.2.2.2.2.2.2.2.2.1 jfZ cyB ji4 jkh cyI u.2.2.2.2.2.2.2.2.2.2.2.2.2.2.2.2.1 jku cyI u.2.2.2.2.2.2.2.2.2.2.2.2.1 jki cyI u.2.2.2.2.2.2.2.2.2.2.2.2.2.2.2.2.2.1 jkv cyI u.2.2.2.2.2.2.2.2.2.2.2.2.2.1 jkq cyI u.2.2.2.2.2.2.2.2.2.2.2.2.2.2.1 jjG cyI u.2.2.2.2.2.2.2.2.2.2.2.2.2.2.2.1 jb6 jbW jbL jnn jnb u.2.2.2.2.2.2.2.2.2.2.2.2.2.2.2.2.2.2.2.2.1 jbW cyI u.2.2.2.2.2.2.2.2.2.2.2.2.2.2.2.2.2.2.2.2.2.1 jbL cyI u.2.2.2.2.2.2.2.2.2.2.2.2.2.2.2.2.2.2.2.2.2.2.1 jg2 jiM u.2.2.2.2.2.2.2.2.2.2.2.2.2.2.2.2.2.2.2.2.2.2.2.1 jiM cyI u.2.2.2.2.2.2.2.2.2.2.2.2.2.2.2.2.2.2.2.2.2.2.2.2.1 jaT jbb jbr u.2.2.2.2.2.2.2.2.2.2.2.2.2.2.2.2.2.2.2.2.2.2.2.2.2.2.1 u.2.2.2.2.2.2.2.2.2.2.2.2.2.2.2.2.2.2.2.2.2.2.2.2.2.2.2.1 jbb cyI u.2.2.2.2.2.2.2.2.2.2.2.2.2.2.2.2.2.2.2.2.2.2.2.2.2.1 jeG jm2 u.2.2.2.2.2.2.2.2.2.2.2.2.2.2.2.2.2.2.2.2.2.2.2.2.2.2.2.2.1) : va_W))) (va_A (qzN a0 jaW jaR jg9 jb6 jbc jg2 ja3 jbH jaT jbO jeG jac jbI jbl jbn jkc jcn jbA jbz jaW jfZ jk4 jlW jll jj0 jlm jjE jg9 jkh jki jku jkv jkq jjG jkg jmj jno jnp jnq jnB jkg cyI jnr jfZ cyB ji4 jkh cyI jns jku cyI jnC jki cyI jnt jkv cyI jnD jkq cyI jnE jjG cyI jmV jb6 jbW jbL jnn jnb jdh jbW cyI jdN jbL cyI jdi jg2 jiM jlT jiM cyI jk5 jaT jbb jbr jn3 jmF jbb cyI jbQ jeG jm2 jje) sz)) (vx_X (fun _ => True) (fun (en : String) (u : Int32 × Int32 × Int32 × Int32 × Int32 × Int32 × Int32 × Int32 × Int32 × Int32 × NI × Int32 × NI × NI × NI × NI × NI × NI × Value × Value × Int32 × NI × NI × Int32 × NI × NI × Value × Value × Int32 × Int32 × Int32) (t : State) => E en u.1 u.2.1 u.2.2.1 u.2.2.2.1 u.2.2.2.2.1 u.2.2.2.2.2.1 u.2.2.2.2.2.2.1 u.2.2.2.2.2.2.2.1 u.2.2.2.2.2.2.2.2.1 u.2.2.2.2.2.2.2.2.2.1 u.2.2.2.2.2.2.2.2.2.2.1 u.2.2.2.2.2.2.2.2.2.2.2.1 u.2.2.2.2.2.2.2.2.2.2.2.2.1 u.2.2.2.2.2.2.2.2.2.2.2.2.2.1 u.2.2.2.2.2.2.2.2.2.2.2.2.2.2.1 u.2.2.2.2.2.2.2.2.2.2.2.2.2.2.2.1 u.2.2.2.2.2.2.2.2.2.2.2.2.2.2.2.2.1 u.2.2.2.2.2.2.2.2.2.2.2.2.2.2.2.2.2.1 u.2.2.2.2.2.2.2.2.2.2.2.2.2.2.2.2.2.2.1 u.2.2.2.2.2.2.2.2.2.2.2.2.2.2.2.2.2.2.2.1 u.2.2.2.2.2.2.2.2.2.2.2.2.2.2.2.2.2.2.2.2.1 u.2.2.2.2.2.2.2.2.2.2.2.2.2.2.2.2.2.2.2.2.2.1 u.2.2.2.2.2.2.2.2.2.2.2.2.2.2.2.2.2.2.2.2.2.2.1 u.2.2.2.2.2.2.2.2.2.2.2.2.2.2.2.2.2.2.2.2.2.2.2.1 u.2.2.2.2.2.2.2.2.2.2.2.2.2.2.2.2.2.2.2.2.2.2.2.2.1 u.2.2.2.2.2.2.2.2.2.2.2.2.2.2.2.2.2.2.2.2.2.2.2.2.2.1 u.2.2.2.2.2.2.2.2.2.2.2.2.2.2.2.2.2.2.2.2.2.2.2.2.2.2.1 u.2.2.2.2.2.2.2.2.2.2.2.2.2.2.2.2.2.2.2.2.2.2.2.2.2.2.2.1 u.2.2.2.2.2.2.2.2.2.2.2.2.2.2.2.2.2.2.2.2.2.2.2.2.2.2.2.2.1 u.2.2.2.2.2.2.2.2.2.2.2.2.2.2.2.2.2.2.2.2.2.2.2.2.2.2.2.2.2.1 u.2.2.2.2.2.2.2.2.2.2.2.2.2.2.2.2.2.2.2.2.2.2.2.2.2.2.2.2.2.2 ∧ cB (dC, dI) (kT cyB cyI cyJ cyP) (va_A (qzN a0 jaW jaR jg9 jb6 jbc jg2 ja3 jbH jaT jbO jeG jac jbI jbl jbn jkc jcn jbA jbz jaW jfZ jk4 jlW jll jj0 jlm jjE jg9 jkh jki jku jkv jkq jjG jkg jmj jno jnp jnq jnB jkg cyI jnr jfZ cyB ji4 jkh cyI jns jku cyI jnC jki cyI jnt jkv cyI jnD jkq cyI jnE jjG cyI jmV jb6 jbW jbL jnn jnb jdh jbW cyI jdN jbL cyI jdi jg2 jiM jlT jiM cyI jk5 jaT jbb jbr jn3 jmF jbb cyI jbQ jeG jm2 jje) sz) (fun u : Int32 × Int32 × Int32 × Int32 × Int32 × Int32 × Int32 × Int32 × Int32 × Int32 × NI × Int32 × NI × NI × NI × NI × NI × NI × Value × Value × Int32 × NI × NI × Int32 × NI × NI × Value × Value × Int32 × Int32 × Int32 => ((qaSp a0 jaW u.2.2.2.2.2.2.2.2.2.2.2.2.2.2.2.2.2.2.1 u.2.2.2.2.2.2.2.2.2.2.2.2.2.2.2.2.2.2.2.1 jb6 jbc jg2 ja3 jbH jaT jbO jeG jac jbI jbl jbn u.2.2.2.2.2.2.2.2.2.2.2.2.2.2.2.2.2.2.2.2.2.2.2.2.2.2.2.2.2.1 u.2.2.2.2.2.2.2.2.2.2.2.2.2.2.2.2.2.2.2.2.2.2.2.2.2.2.2.2.2.2 jbA u.1 jaW jfZ u.2.1 u.2.2.1 u.2.2.2.1 u.2.2.2.2.1 u.2.2.2.2.2.1 u.2.2.2.2.2.2.1 jg9 jkh jki jku jkv jkq jjG jkg jmj u.2.2.2.2.2.2.2.1 u.2.2.2.2.2.2.2.2.1 u.2.2.2.2.2.2.2.2.2.1 u.2.2.2.2.2.2.2.2.2.2.2.1 jkg cyI u.2.2.2.2.2.2.2.2.2.2.1 jfZ cyB ji4 jkh cyI u.2.2.2.2.2.2.2.2.2.2.2.2.2.2.2.2.1 jku cyI u.2.2.2.2.2.2.2.2.2.2.2.2.1 jki cyI u.2.2.2.2.2.2.2.2.2.2.2.2.2.2.2.2.2.1 jkv cyI u.2.2.2.2.2.2.2.2.2.2.2.2.2.1 jkq cyI u.2.2.2.2.2.2.2.2.2.2.2.2.2.2.1 jjG cyI u.2.2.2.2.2.2.2.2.2.2.2.2.2.2.2.1 jb6 jbW jbL jnn jnb u.2.2.2.2.2.2.2.2.2.2.2.2.2.2.2.2.2.2.2.2.1 jbW cyI u.2.2.2.2.2.2.2.2.2.2.2.2.2.2.2.2.2.2.2.2.2.1 jbL cyI u.2.2.2.2.2.2.2.2.2.2.2.2.2.2.2.2.2.2.2.2.2.2.1 jg2 jiM u.2.2.2.2.2.2.2.2.2.2.2.2.2.2.2.2.2.2.2.2.2.2.2.1 jiM cyI u.2.2.2.2.2.2.2.2.2.2.2.2.2.2.2.2.2.2.2.2.2.2.2.2.1 jaT jbb jbr u.2.2.2.2.2.2.2.2.2.2.2.2.2.2.2.2.2.2.2.2.2.2.2.2.2.2.1 u.2.2.2.2.2.2.2.2.2.2.2.2.2.2.2.2.2.2.2.2.2.2.2.2.2.2.2.1 jbb cyI u.2.2.2.2.2.2.2.2.2.2.2.2.2.2.2.2.2.2.2.2.2.2.2.2.2.1 jeG jm2 u.2.2.2.2.2.2.2.2.2.2.2.2.2.2.2.2.2.2.2.2.2.2.2.2.2.2.2.2.1) : va_W)) u t) (va_A (qzN a0 jaW jaR jg9 jb6 jbc jg2 ja3 jbH jaT jbO jeG jac jbI jbl jbn jkc jcn jbA jbz jaW jfZ jk4 jlW jll jj0 jlm jjE jg9 jkh jki jku jkv jkq jjG jkg jmj jno jnp jnq jnB jkg cyI jnr jfZ cyB ji4 jkh cyI jns jku cyI jnC jki cyI jnt jkv cyI jnD jkq cyI jnE jjG cyI jmV jb6 jbW jbL jnn jnb jdh jbW cyI jdN jbL cyI jdi jg2 jiM jlT jiM cyI jk5 jaT jbb jbr jn3 jmF jbb cyI jbQ jeG jm2 jje) sz)) 1 6 (va_A (qzN a0 jaW jaR jg9 jb6 jbc jg2 ja3 jbH jaT jbO jeG jac jbI jbl jbn jkc jcn jbA jbz jaW jfZ jk4 jlW jll jj0 jlm jjE jg9 jkh jki jku jkv jkq jjG jkg jmj jno jnp jnq jnB jkg cyI jnr jfZ cyB ji4 jkh cyI jns jku cyI jnC jki cyI jnt jkv cyI jnD jkq cyI jnE jjG cyI jmV jb6 jbW jbL jnn jnb jdh jbW cyI jdN jbL cyI jdi jg2 jiM jlT jiM cyI jk5 jaT jbb jbr jn3 jmF jbb cyI jbQ jeG jm2 jje) sz) := by
  refine vx_ofW (cc := cX10_down) (maxL := 3) (ret := (some .int)) (by decide) rfl ?_
  intro p e s m args below meth c s₁ B hml hnt hv
  obtain ⟨rfl, ⟨hsz, hP, hK, hD0, hNw, hXl, hXu, hXn, hXt⟩, hE0⟩ := hv
  have hx := B.exec
  have hb := B.bytes
  have hr := B.returns
  have hts := atoms_spec (ws := wsX10_down) B.pre
  have hown : s.vm.findClass RX10 = some m.cls := findClass_of_methodNamed B.named
  have hlocks := B.notSynchronized
  subst hsz
  have hD := hD0.self (sz := s.heap.size)
  generalize hAe : va_A (qzN a0 jaW jaR jg9 jb6 jbc jg2 ja3 jbH jaT jbO jeG jac jbI jbl jbn jkc jcn jbA jbz jaW jfZ jk4 jlW jll jj0 jlm jjE jg9 jkh jki jku jkv jkq jjG jkg jmj jno jnp jnq jnB jkg cyI jnr jfZ cyB ji4 jkh cyI jns jku cyI jnC jki cyI jnt jkv cyI jnD jkq cyI jnE jjG cyI jmV jb6 jbW jbL jnn jnb jdh jbW cyI jdN jbL cyI jdi jg2 jiM jlT jiM cyI jk5 jaT jbb jbr jn3 jmF jbb cyI jbQ jeG jm2 jje) s.heap.size = A at hD hXu hXn hE0 ⊢
  have hA : ∀ q : Nat, s.heap.size ≤ q → A q := fun q h => by rw [← hAe]; exact Or.inr h
  have hS : va_S A s.heap s.heap [] := va_S.rf
  have hP : va_P (dC, dI) vwCl (qzN a0 jaW jaR jg9 jb6 jbc jg2 ja3 jbH jaT jbO jeG jac jbI jbl jbn jkc jcn jbA jbz jaW jfZ jk4 jlW jll jj0 jlm jjE jg9 jkh jki jku jkv jkq jjG jkg jmj jno jnp jnq jnB jkg cyI jnr jfZ cyB ji4 jkh cyI jns jku cyI jnC jki cyI jnt jkv cyI jnD jkq cyI jnE jjG cyI jmV jb6 jbW jbL jnn jnb jdh jbW cyI jdN jbL cyI jdi jg2 jiM jlT jiM cyI jk5 jaT jbb jbr jn3 jmF jbb cyI jbQ jeG jm2 jje) s.heap := hP
  have hl := lv_entry ([.ref a0, .int p1]) (n := 3) (nbq rfl)
  rw [lg_entry_eq]
  generalize (lg_sl ([.ref a0, .int p1]) ++ List.replicate (3 - (lg_sl ([.ref a0, .int p1])).length) Slot.unset).toArray = ls at hl ⊢
  have hl : lv_has ls 3 [(0, .ref a0), (1, .int p1)] := hl
  have hY : cfY l s A := ⟨hXl, hXu, hXn, hXt⟩
  have hE := hE0
  have hXs : cfX l s c A := ⟨hnt, hY⟩
  have C0 : cfx p s m _ meth c cX10_down (some .int) wsX10_down RX10 3 A (dC, dI) (kT cyB cyI cyJ cyP) ∧ cfX l s c A := ⟨⟨hx, hb, hr, hts, hown, hlocks, hml, hA, hK, hNw⟩, hXs⟩
  clear hAe
  obtain ⟨H, hH⟩ : ∃ H, H = s.heap := ⟨_, rfl⟩
  rw [← hH] at hP ⊢
  have hS : va_S A s.heap H [] := by rw [hH]; exact va_S.rf
  have hS := hS
  refine lv_aload_n hx hb (qaa qmA 0 rfl) rfl (lv_at hl 0 rfl) ?_
  refine lv_iload_n hx hb (qaa qmA 1 rfl) rfl (lv_at hl 1 rfl) ?_
  refine lv_sipush (v := 600) hx hb (qaa qmA 2 rfl) (by decide) ?_
  obtain ⟨hCc, hPc, hDc, hFc⟩ := qac (ws' := (qaXR a0 jaW jaR jg9 jb6 jbc jg2 ja3 jbH jaT jbO jeG jac jbI jbl jbn jkc jcn jbA jbz jaW jfZ jk4 jlW jll jj0 jlm jjE)) hP hD hS hA [0, 1] (by decide +kernel) rfl
  refine vx_callv (vx_runV (As := [.int p1, .int 600]) (rest := []) ⟨hx, hb, hml, hown, hts⟩ (qH5 l dC dI cyB cyI cyJ cyP a0 jaW H.size (.ref jaR) (.ref jg9) (.ref jb6) (jbc) (.ref jg2) (ja3) (jbH) (.ref jaT) (jbO) (.ref jeG) (jac) (jbI) (jbl) (jbn) (.int jkc) (.int jcn) (jbA) (.ref jfZ) jbz jk4 jlW jll jj0 jlm jjE p1 600 hw) (cwV 2 hts gX10_down_X10_openText rfl rfl rfl (by decide +kernel) ⟨nbq rfl, nbq rfl⟩) ⟨qau, va_recv (q := (RX10, TX10, 19)) hK hPc (ci := 10) (q0 := 0) rfl rfl, qbk hPc hK hDc hNw hY hS hFc⟩ rfl rfl hl.1 rfl (lv_room (nbq rfl)) (qaa qmA 3 rfl) ⟨nbq rfl, nbq rfl⟩) hS (fun q _ h => hFc q h) hFc (fun q _ h => hFc q h) (fun en ce q9 u t H1 locs ht hvm hpx hB hz1 hk1 hS hc9 hv9 hcl9 => ?_) (fun u t H1 locs ht hvm hw hB hz1 hk1 hS => ?_)
  · obtain ⟨x1, x2, x3, x4, x5, x6, x7⟩ := u
    obtain ⟨hw, hP1, hK1, hD1⟩ := hB
    rw [ht] at hP1
    obtain ⟨hP, hD⟩ := qad (wr := (qa54 jg9 jkh jki jku jkv jkq jjG jkg jmj jno jnp jnq jnB jkg cyI jnr jfZ cyB ji4 jkh cyI jns jku cyI jnC jki cyI jnt jkv cyI jnD jkq cyI jnE jjG cyI jmV jb6 jbW jbL jnn jnb jdh jbW cyI jdN jbL cyI jdi jg2 jiM jlT jiM cyI jk5 jaT jbb jbr jn3 jmF jbb cyI jbQ jeG jm2 jje)) (w1 := (qaXR a0 jaW jaR jg9 jb6 jbc jg2 ja3 jbH jaT jbO jeG jac jbI jbl jbn jkc jcn jbA x1 jaW jfZ x2 x3 x4 x5 x6 x7)) (wn := (qzN a0 jaW jaR jg9 jb6 jbc jg2 ja3 jbH jaT jbO jeG jac jbI jbl jbn jkc jcn jbA x1 jaW jfZ x2 x3 x4 x5 x6 x7 jg9 jkh jki jku jkv jkq jjG jkg jmj jno jnp jnq jnB jkg cyI jnr jfZ cyB ji4 jkh cyI jns jku cyI jnC jki cyI jnt jkv cyI jnD jkq cyI jnE jjG cyI jmV jb6 jbW jbL jnn jnb jdh jbW cyI jdN jbL cyI jdi jg2 jiM jlT jiM cyI jk5 jaT jbb jbr jn3 jmF jbb cyI jbQ jeG jm2 jje)) hP hD [0, 1] [2, 3, 4, 5, 6, 7, 8, 9, 10, 11, 12, 13, 14, 15, 16, 17, 18] [17, 18, 0, 1, 2, 3, 4, 5, 6, 7, 8, 9, 10, 11, 12, 13, 14, 15, 16] hCc rfl (by decide +kernel) (by decide +kernel) (by decide +kernel) rfl hk1 hFc hP1 hD1
    generalize H1 = H at hP hS hc9 ⊢
    exact vx_out (fun x hx9 => (hXs.1 x hx9).elim) hlocks hc9 hv9 hcl9 (fun t2 ht2 hal2 => ⟨(x1, x2, x3, x4, x5, x6, x7, jno, jnp, jnq, jnr, jnB, jnC, jnD, jnE, jmV, jns, jnt, (.ref jaR), (.ref jg9), jdh, jdN, jdi, jlT, jk5, jbQ, jn3, jmF, jje, jkc, jcn), trivial, ⟨hw, by rw [ht2]; exact hP, va_K.moved hal2 hK, hD⟩, hS.F ht2⟩) hS.2.2 (nbq rfl) (nbq rfl)
  obtain ⟨x1, x2, x3, x4, x5, x6, x7⟩ := u
  obtain ⟨hP1, hK1, hD1⟩ := hB
  rw [ht] at hP1
  obtain ⟨hP, hD⟩ := qad (wr := (qa54 jg9 jkh jki jku jkv jkq jjG jkg jmj jno jnp jnq jnB jkg cyI jnr jfZ cyB ji4 jkh cyI jns jku cyI jnC jki cyI jnt jkv cyI jnD jkq cyI jnE jjG cyI jmV jb6 jbW jbL jnn jnb jdh jbW cyI jdN jbL cyI jdi jg2 jiM jlT jiM cyI jk5 jaT jbb jbr jn3 jmF jbb cyI jbQ jeG jm2 jje)) (w1 := (qaXR a0 jaW jaR jg9 jb6 jbc jg2 ja3 jbH jaT jbO jeG jac jbI jbl jbn jkc jcn jbA x1 jaW jfZ x2 x3 x4 x5 x6 x7)) (wn := (qzN a0 jaW jaR jg9 jb6 jbc jg2 ja3 jbH jaT jbO jeG jac jbI jbl jbn jkc jcn jbA x1 jaW jfZ x2 x3 x4 x5 x6 x7 jg9 jkh jki jku jkv jkq jjG jkg jmj jno jnp jnq jnB jkg cyI jnr jfZ cyB ji4 jkh cyI jns jku cyI jnC jki cyI jnt jkv cyI jnD jkq cyI jnE jjG cyI jmV jb6 jbW jbL jnn jnb jdh jbW cyI jdN jbL cyI jdi jg2 jiM jlT jiM cyI jk5 jaT jbb jbr jn3 jmF jbb cyI jbQ jeG jm2 jje)) hP hD [0, 1] [2, 3, 4, 5, 6, 7, 8, 9, 10, 11, 12, 13, 14, 15, 16, 17, 18] [17, 18, 0, 1, 2, 3, 4, 5, 6, 7, 8, 9, 10, 11, 12, 13, 14, 15, 16] hCc rfl (by decide +kernel) (by decide +kernel) (by decide +kernel) rfl hk1 hFc hP1 hD1
  generalize H1 = H at hP hS ⊢
  refine lv_aload_n hx hb (qaa qmA 4 rfl) rfl (lv_at hl 0 rfl) ?_
  refine va_get (D := (dC, dI)) (ci := 10) (v := .ref jg9) (C := RX10) (T := TX10) (N := 19) hx hb hts qdD hown hK hP 0 rfl rfl 2 (by decide) (hts _ qJ6) (fun _ h9 => h9) rfl (qaa qmA 5 rfl) ?_
  refine lv_aload_n hx hb (qaa qmA 6 rfl) rfl (lv_at hl 0 rfl) ?_
  refine va_get (D := (dC, dI)) (ci := 10) (v := .ref jaW) (C := RX10) (T := TX10) (N := 19) hx hb hts qdD hown hK hP 0 rfl rfl 0 (by decide) (hts _ qJt) (fun _ h9 => h9) rfl (qaa qmA 7 rfl) ?_
  obtain ⟨hCc, hPc, hDc, hFc⟩ := qac (ws' := (qa62 jg9 jkh jki jku jkv jkq jjG jkg jmj jno jnp jnq jnB jkg cyI jnr jaW jfZ x2 x3 x4 x5 x6 x7 jfZ cyB ji4 jkh cyI jns jku cyI jnC jki cyI jnt jkv cyI jnD jkq cyI jnE jjG cyI jmV)) hP hD hS hA [2, 3, 1, 4, 5, 6, 7, 8, 9, 10] (by decide +kernel) rfl
  refine va_callv (va_runV (As := [.ref jaW]) (rest := []) ⟨hx, hb, hml, hown, hts⟩ (qar0 l dC dI cyB cyI cyJ cyP jg9 jaW jkg jfZ jkh jku jki jkv jkq jjG H.size (jmj) (.int x5) x2 ji4 jno jnp jnq jnr x3 jnB x4 x6 x7 jnC jnD jnE jmV jns jnt hw) (cwV 1 hts gX10_down_X2_readFrom rfl rfl rfl (by decide +kernel) ⟨nbq rfl, nbq rfl⟩) ⟨qat qsL, va_recv (q := (RX2, TX2, 12)) hK hPc (ci := 2) (q0 := 0) rfl rfl, qbg qsL hPc hK hDc hNw hY hE hS hFc⟩ rfl rfl hl.1 rfl (lv_room (nbq rfl)) (qaa qmA 8 rfl) ⟨nbq rfl, nbq rfl⟩) hS (fun q _ h => hFc q h) hFc (fun u t H1 locs ht hvm hw hB hz1 hk1 hS => ?_)
  obtain ⟨x8, x9, x10, f11, x12, x13, x14, x15, x16, f17, f18, f19, f20, f21, f22⟩ := u
  obtain ⟨hP1, hK1, hD1⟩ := hB
  rw [ht] at hP1
  obtain ⟨hP, hD⟩ := qad (wr := [(a0, .inr (10, [.ref jaW, .ref jaR, .ref jg9, .ref jb6, jbc, .ref jg2, ja3, jbH, .ref jaT, jbO, .ref jeG, jac, jbI, jbl, jbn, .int jkc, .int jcn, jbA, .int x1])), (jb6, .inr (4, [.ref jbW, .ref jbL, jnn, jnb, .int jdh])), (jbW, .inl (cyI, 150, .inl jdN)), (jbL, .inl (cyI, 150, .inl jdi)), (jg2, .inr (0, [.ref jiM, .int jlT])), (jiM, .inl (cyI, 8, .inl jk5)), (jaT, .inr (1, [.ref jbb, jbr, jn3, jmF])), (jbb, .inl (cyI, 64, .inl jbQ)), (jeG, .inr (5, [jm2, .int jje]))]) (w1 := (qa62 jg9 jkh jki jku jkv jkq jjG jkg jmj x8 x9 x10 x13 jkg cyI f11 jaW jfZ x2 x12 x14 x5 x15 x16 jfZ cyB ji4 jkh cyI f21 jku cyI f17 jki cyI f22 jkv cyI f18 jkq cyI f19 jjG cyI f20)) (wn := (qzN a0 jaW jaR jg9 jb6 jbc jg2 ja3 jbH jaT jbO jeG jac jbI jbl jbn jkc jcn jbA x1 jaW jfZ x2 x12 x14 x5 x15 x16 jg9 jkh jki jku jkv jkq jjG jkg jmj x8 x9 x10 x13 jkg cyI f11 jfZ cyB ji4 jkh cyI f21 jku cyI f17 jki cyI f22 jkv cyI f18 jkq cyI f19 jjG cyI f20 jb6 jbW jbL jnn jnb jdh jbW cyI jdN jbL cyI jdi jg2 jiM jlT jiM cyI jk5 jaT jbb jbr jn3 jmF jbb cyI jbQ jeG jm2 jje)) hP hD [2, 3, 1, 4, 5, 6, 7, 8, 9, 10] [0, 11, 12, 13, 14, 15, 16, 17, 18] [0, 11, 9, 10, 12, 13, 14, 15, 16, 17, 18, 1, 2, 3, 4, 5, 6, 7, 8] hCc rfl (by decide +kernel) (by decide +kernel) (by decide +kernel) rfl hk1 hFc hP1 hD1
  generalize H1 = H at hP hS ⊢
  refine lv_aload_n hx hb (qaa qmA 9 rfl) rfl (lv_at hl 0 rfl) ?_
  refine va_get (D := (dC, dI)) (ci := 10) (v := .ref jaW) (C := RX10) (T := TX10) (N := 19) hx hb hts qdD hown hK hP 0 rfl rfl 0 (by decide) (hts _ qJt) (fun _ h9 => h9) rfl (qaa qmA 10 rfl) ?_
  obtain ⟨hCc, hPc, hDc, hFc⟩ := qac (ws' := (qaZ3 jaW jfZ x2 x12 x14 x5 x15 x16)) hP hD hS hA [1] (by decide +kernel) rfl
  refine va_calli (va_runV (As := []) (rest := []) ⟨hx, hb, hml, hown, hts⟩ (qjR l dC dI cyB cyI cyJ cyP jaW H.size (.ref jfZ) (.int x2) (.int x12) (.int x14) (.int x5) (.int x16) x15 hw) (cwV 0 hts gX10_down_X8_isFaulty rfl rfl rfl (by decide +kernel) ⟨nbq rfl, nbq rfl⟩) ⟨qab, va_recv (q := (RX8, TX8, 7)) hK hPc (ci := 8) (q0 := 0) rfl rfl, qae hPc hK hDc hNw⟩ rfl rfl hl.1 rfl (lv_room (nbq rfl)) (qaa qmA 11 rfl) ⟨nbq rfl, nbq rfl⟩) hS (fun q _ h => hFc q h) hFc (fun r23 u t H1 locs ht hvm hw hB hz1 hk1 hS => ?_)
  obtain ⟨hP1, hK1, hD1⟩ := hB
  rw [ht] at hP1
  obtain ⟨hP, hD⟩ := qad (wr := [(a0, .inr (10, [.ref jaW, .ref jaR, .ref jg9, .ref jb6, jbc, .ref jg2, ja3, jbH, .ref jaT, jbO, .ref jeG, jac, jbI, jbl, jbn, .int jkc, .int jcn, jbA, .int x1])), (jg9, .inr (2, [.ref jkh, .ref jki, .ref jku, .ref jkv, .ref jkq, .ref jjG, .ref jkg, jmj, .int x8, .int x9, .int x10, .int x13])), (jkg, .inl (cyI, 36, .inl f11)), (jfZ, .inl (cyB, 600, .inl ji4)), (jkh, .inl (cyI, 8, .inl f21)), (jku, .inl (cyI, 4, .inl f17)), (jki, .inl (cyI, 8, .inl f22)), (jkv, .inl (cyI, 4, .inl f18)), (jkq, .inl (cyI, 6, .inl f19)), (jjG, .inl (cyI, 6, .inl f20)), (jb6, .inr (4, [.ref jbW, .ref jbL, jnn, jnb, .int jdh])), (jbW, .inl (cyI, 150, .inl jdN)), (jbL, .inl (cyI, 150, .inl jdi)), (jg2, .inr (0, [.ref jiM, .int jlT])), (jiM, .inl (cyI, 8, .inl jk5)), (jaT, .inr (1, [.ref jbb, jbr, jn3, jmF])), (jbb, .inl (cyI, 64, .inl jbQ)), (jeG, .inr (5, [jm2, .int jje]))]) (w1 := (qaZ3 jaW jfZ x2 x12 x14 x5 x15 x16)) (wn := (qzN a0 jaW jaR jg9 jb6 jbc jg2 ja3 jbH jaT jbO jeG jac jbI jbl jbn jkc jcn jbA x1 jaW jfZ x2 x12 x14 x5 x15 x16 jg9 jkh jki jku jkv jkq jjG jkg jmj x8 x9 x10 x13 jkg cyI f11 jfZ cyB ji4 jkh cyI f21 jku cyI f17 jki cyI f22 jkv cyI f18 jkq cyI f19 jjG cyI f20 jb6 jbW jbL jnn jnb jdh jbW cyI jdN jbL cyI jdi jg2 jiM jlT jiM cyI jk5 jaT jbb jbr jn3 jmF jbb cyI jbQ jeG jm2 jje)) hP hD [1] [0, 2, 3, 4, 5, 6, 7, 8, 9, 10, 11, 12, 13, 14, 15, 16, 17, 18] [0, 18, 1, 2, 3, 4, 5, 6, 7, 8, 9, 10, 11, 12, 13, 14, 15, 16, 17] hCc rfl (by decide +kernel) (by decide +kernel) (by decide +kernel) rfl hk1 hFc hP1 hD1
  generalize H1 = H at hP hS ⊢
  refine lv_if_eq (tgt := 40) hx hb (qaa qmA 12 rfl) (by decide) (fun c24 => ?_) (fun c24 => ?_)
  · have hw := hw.1 c24
    refine lv_aload_n hx hb (qaa qj4 3 rfl) rfl (lv_at hl 0 rfl) ?_
    refine va_get (D := (dC, dI)) (ci := 10) (v := .ref jaR) (C := RX10) (T := TX10) (N := 19) hx hb hts qdD hown hK hP 0 rfl rfl 1 (by decide) (hts _ qCN) (fun _ h9 => h9) rfl (qaa qj4 4 rfl) ?_
    refine lv_astore_n (lv' := [(2, .ref jaR), (0, .ref a0), (1, .int p1)]) hx hb (qaa qj4 5 rfl) rfl hl (by decide) rfl (fun ls hl => ?_)
    refine lv_aload_n hx hb (qaa qj4 6 rfl) rfl (lv_at hl 1 rfl) ?_
    refine lv_aload_n hx hb (qaa qj4 7 rfl) rfl (lv_at hl 1 rfl) ?_
    refine va_get (D := (dC, dI)) (ci := 10) (v := .ref jg9) (C := RX10) (T := TX10) (N := 19) hx hb hts qdD hown hK hP 0 rfl rfl 2 (by decide) (hts _ qJ6) (fun _ h9 => h9) rfl (qaa qj4 8 rfl) ?_
    refine va_put (D := (dC, dI)) (ci := 10) (v := .ref jg9) (ty := .object "MarchHares$Down") (C := RX10) (T := TX10) (N := 19) hx hb hts qdD tyX10 tyX10_ok nmX10 hown hK hP hD hS 0 rfl rfl 1 (by decide) (hts _ qCN) (fun _ h9 => h9) rfl (by decide +kernel) rfl rfl (nbq rfl) (qaa qj4 9 rfl) (fun H locs hP hD hS => ?_)
    have hP : va_P (dC, dI) vwCl (qzN a0 jaW jg9 jg9 jb6 jbc jg2 ja3 jbH jaT jbO jeG jac jbI jbl jbn jkc jcn jbA x1 jaW jfZ x2 x12 x14 x5 x15 x16 jg9 jkh jki jku jkv jkq jjG jkg jmj x8 x9 x10 x13 jkg cyI f11 jfZ cyB ji4 jkh cyI f21 jku cyI f17 jki cyI f22 jkv cyI f18 jkq cyI f19 jjG cyI f20 jb6 jbW jbL jnn jnb jdh jbW cyI jdN jbL cyI jdi jg2 jiM jlT jiM cyI jk5 jaT jbb jbr jn3 jmF jbb cyI jbQ jeG jm2 jje) H := hP
    have hD : va_D A (qzN a0 jaW jg9 jg9 jb6 jbc jg2 ja3 jbH jaT jbO jeG jac jbI jbl jbn jkc jcn jbA x1 jaW jfZ x2 x12 x14 x5 x15 x16 jg9 jkh jki jku jkv jkq jjG jkg jmj x8 x9 x10 x13 jkg cyI f11 jfZ cyB ji4 jkh cyI f21 jku cyI f17 jki cyI f22 jkv cyI f18 jkq cyI f19 jjG cyI f20 jb6 jbW jbL jnn jnb jdh jbW cyI jdN jbL cyI jdi jg2 jiM jlT jiM cyI jk5 jaT jbb jbr jn3 jmF jbb cyI jbQ jeG jm2 jje) := hD
    refine lv_aload_n hx hb (qaa qj4 10 rfl) rfl (lv_at hl 1 rfl) ?_
    refine lv_aload_n hx hb (qaa qj4 11 rfl) rfl (lv_at hl 0 rfl) ?_
    refine va_put (D := (dC, dI)) (ci := 10) (v := .ref jaR) (ty := .object "MarchHares$Down") (C := RX10) (T := TX10) (N := 19) hx hb hts qdD tyX10 tyX10_ok nmX10 hown hK hP hD hS 0 rfl rfl 2 (by decide) (hts _ qJ6) (fun _ h9 => h9) rfl (by decide +kernel) rfl rfl (nbq rfl) (qaa qj4 12 rfl) (fun H locs hP hD hS => ?_)
    have hP : va_P (dC, dI) vwCl (qzN a0 jaW jg9 jaR jb6 jbc jg2 ja3 jbH jaT jbO jeG jac jbI jbl jbn jkc jcn jbA x1 jaW jfZ x2 x12 x14 x5 x15 x16 jg9 jkh jki jku jkv jkq jjG jkg jmj x8 x9 x10 x13 jkg cyI f11 jfZ cyB ji4 jkh cyI f21 jku cyI f17 jki cyI f22 jkv cyI f18 jkq cyI f19 jjG cyI f20 jb6 jbW jbL jnn jnb jdh jbW cyI jdN jbL cyI jdi jg2 jiM jlT jiM cyI jk5 jaT jbb jbr jn3 jmF jbb cyI jbQ jeG jm2 jje) H := hP
    have hD : va_D A (qzN a0 jaW jg9 jaR jb6 jbc jg2 ja3 jbH jaT jbO jeG jac jbI jbl jbn jkc jcn jbA x1 jaW jfZ x2 x12 x14 x5 x15 x16 jg9 jkh jki jku jkv jkq jjG jkg jmj x8 x9 x10 x13 jkg cyI f11 jfZ cyB ji4 jkh cyI f21 jku cyI f17 jki cyI f22 jkv cyI f18 jkq cyI f19 jjG cyI f20 jb6 jbW jbL jnn jnb jdh jbW cyI jdN jbL cyI jdi jg2 jiM jlT jiM cyI jk5 jaT jbb jbr jn3 jmF jbb cyI jbQ jeG jm2 jje) := hD
    refine lv_aload_n hx hb (qaa qj4 13 rfl) rfl (lv_at hl 1 rfl) ?_
    refine va_get (D := (dC, dI)) (ci := 10) (v := .ref jb6) (C := RX10) (T := TX10) (N := 19) hx hb hts qdD hown hK hP 0 rfl rfl 3 (by decide) (hts _ qU1) (fun _ h9 => h9) rfl (qaa qj4 14 rfl) ?_
    obtain ⟨hCc, hPc, hDc, hFc⟩ := qac (ws' := (qa4H jb6 jbW jbL jnn jnb jdh jbW cyI jdN jbL cyI jdi)) hP hD hS hA [11, 12, 13] (by decide +kernel) rfl
    refine va_callv (va_runV (As := []) (rest := []) ⟨hx, hb, hml, hown, hts⟩ (q7G l dC dI cyB cyI cyJ cyP jb6 jbW jbL H.size (jnn) (jnb) jdh jdN jdi hw) (cwV 0 hts gX10_down_X4_setPlain rfl rfl rfl (by decide +kernel) ⟨nbq rfl, nbq rfl⟩) ⟨qab, va_recv (q := (RX4, TX4, 5)) hK hPc (ci := 4) (q0 := 0) rfl rfl, qae hPc hK hDc hNw⟩ rfl rfl hl.1 rfl (lv_room (nbq rfl)) (qaa qj4 15 rfl) ⟨nbq rfl, nbq rfl⟩) hS (fun q _ h => hFc q h) hFc (fun u t H1 locs ht hvm hw hB hz1 hk1 hS => ?_)
    obtain ⟨x25, f26, f27⟩ := u
    obtain ⟨hP1, hK1, hD1⟩ := hB
    rw [ht] at hP1
    obtain ⟨hP, hD⟩ := qad (wr := [(a0, .inr (10, [.ref jaW, .ref jg9, .ref jaR, .ref jb6, jbc, .ref jg2, ja3, jbH, .ref jaT, jbO, .ref jeG, jac, jbI, jbl, jbn, .int jkc, .int jcn, jbA, .int x1])), (jaW, .inr (8, [.ref jfZ, .int x2, .int x12, .int x14, .int x5, .int x15, .int x16])), (jg9, .inr (2, [.ref jkh, .ref jki, .ref jku, .ref jkv, .ref jkq, .ref jjG, .ref jkg, jmj, .int x8, .int x9, .int x10, .int x13])), (jkg, .inl (cyI, 36, .inl f11)), (jfZ, .inl (cyB, 600, .inl ji4)), (jkh, .inl (cyI, 8, .inl f21)), (jku, .inl (cyI, 4, .inl f17)), (jki, .inl (cyI, 8, .inl f22)), (jkv, .inl (cyI, 4, .inl f18)), (jkq, .inl (cyI, 6, .inl f19)), (jjG, .inl (cyI, 6, .inl f20)), (jg2, .inr (0, [.ref jiM, .int jlT])), (jiM, .inl (cyI, 8, .inl jk5)), (jaT, .inr (1, [.ref jbb, jbr, jn3, jmF])), (jbb, .inl (cyI, 64, .inl jbQ)), (jeG, .inr (5, [jm2, .int jje]))]) (w1 := (qa4H jb6 jbW jbL jnn jnb x25 jbW cyI f26 jbL cyI f27)) (wn := (qzN a0 jaW jg9 jaR jb6 jbc jg2 ja3 jbH jaT jbO jeG jac jbI jbl jbn jkc jcn jbA x1 jaW jfZ x2 x12 x14 x5 x15 x16 jg9 jkh jki jku jkv jkq jjG jkg jmj x8 x9 x10 x13 jkg cyI f11 jfZ cyB ji4 jkh cyI f21 jku cyI f17 jki cyI f22 jkv cyI f18 jkq cyI f19 jjG cyI f20 jb6 jbW jbL jnn jnb x25 jbW cyI f26 jbL cyI f27 jg2 jiM jlT jiM cyI jk5 jaT jbb jbr jn3 jmF jbb cyI jbQ jeG jm2 jje)) hP hD [11, 12, 13] [0, 1, 2, 3, 4, 5, 6, 7, 8, 9, 10, 14, 15, 16, 17, 18] [0, 1, 2, 3, 4, 5, 6, 7, 8, 9, 10, 16, 17, 18, 11, 12, 13, 14, 15] hCc rfl (by decide +kernel) (by decide +kernel) (by decide +kernel) rfl hk1 hFc hP1 hD1
    generalize H1 = H at hP hS ⊢
    refine lv_aload_n hx hb (qaa qiE 0 rfl) rfl (lv_at hl 1 rfl) ?_
    refine va_get (D := (dC, dI)) (ci := 10) (v := .ref jg2) (C := RX10) (T := TX10) (N := 19) hx hb hts qdD hown hK hP 0 rfl rfl 5 (by decide) (hts _ qanb) (fun _ h9 => h9) rfl (qaa qiE 1 rfl) ?_
    obtain ⟨hCc, hPc, hDc, hFc⟩ := qac (ws' := (qa7F jg2 jiM jlT jiM cyI jk5)) hP hD hS hA [14, 15] (by decide +kernel) rfl
    refine va_callv (va_runV (As := []) (rest := []) ⟨hx, hb, hml, hown, hts⟩ (qace l dC dI cyB cyI cyJ cyP jg2 jiM H.size jlT jk5 hw) (cwV 0 hts gX10_down_X0_clear rfl rfl rfl (by decide +kernel) ⟨nbq rfl, nbq rfl⟩) ⟨qab, va_recv (q := (RX0, TX0, 2)) hK hPc (ci := 0) (q0 := 0) rfl rfl, qae hPc hK hDc hNw⟩ rfl rfl hl.1 rfl (lv_room (nbq rfl)) (qaa qiE 2 rfl) ⟨nbq rfl, nbq rfl⟩) hS (fun q _ h => hFc q h) hFc (fun u t H1 locs ht hvm hw hB hz1 hk1 hS => ?_)
    obtain ⟨x28, f29⟩ := u
    obtain ⟨hP1, hK1, hD1⟩ := hB
    rw [ht] at hP1
    obtain ⟨hP, hD⟩ := qad (wr := [(a0, .inr (10, [.ref jaW, .ref jg9, .ref jaR, .ref jb6, jbc, .ref jg2, ja3, jbH, .ref jaT, jbO, .ref jeG, jac, jbI, jbl, jbn, .int jkc, .int jcn, jbA, .int x1])), (jaW, .inr (8, [.ref jfZ, .int x2, .int x12, .int x14, .int x5, .int x15, .int x16])), (jg9, .inr (2, [.ref jkh, .ref jki, .ref jku, .ref jkv, .ref jkq, .ref jjG, .ref jkg, jmj, .int x8, .int x9, .int x10, .int x13])), (jkg, .inl (cyI, 36, .inl f11)), (jfZ, .inl (cyB, 600, .inl ji4)), (jkh, .inl (cyI, 8, .inl f21)), (jku, .inl (cyI, 4, .inl f17)), (jki, .inl (cyI, 8, .inl f22)), (jkv, .inl (cyI, 4, .inl f18)), (jkq, .inl (cyI, 6, .inl f19)), (jjG, .inl (cyI, 6, .inl f20)), (jb6, .inr (4, [.ref jbW, .ref jbL, jnn, jnb, .int x25])), (jbW, .inl (cyI, 150, .inl f26)), (jbL, .inl (cyI, 150, .inl f27)), (jaT, .inr (1, [.ref jbb, jbr, jn3, jmF])), (jbb, .inl (cyI, 64, .inl jbQ)), (jeG, .inr (5, [jm2, .int jje]))]) (w1 := (qa7F jg2 jiM x28 jiM cyI f29)) (wn := (qzN a0 jaW jg9 jaR jb6 jbc jg2 ja3 jbH jaT jbO jeG jac jbI jbl jbn jkc jcn jbA x1 jaW jfZ x2 x12 x14 x5 x15 x16 jg9 jkh jki jku jkv jkq jjG jkg jmj x8 x9 x10 x13 jkg cyI f11 jfZ cyB ji4 jkh cyI f21 jku cyI f17 jki cyI f22 jkv cyI f18 jkq cyI f19 jjG cyI f20 jb6 jbW jbL jnn jnb x25 jbW cyI f26 jbL cyI f27 jg2 jiM x28 jiM cyI f29 jaT jbb jbr jn3 jmF jbb cyI jbQ jeG jm2 jje)) hP hD [14, 15] [0, 1, 2, 3, 4, 5, 6, 7, 8, 9, 10, 11, 12, 13, 16, 17, 18] [0, 1, 2, 3, 4, 5, 6, 7, 8, 9, 10, 11, 12, 13, 17, 18, 14, 15, 16] hCc rfl (by decide +kernel) (by decide +kernel) (by decide +kernel) rfl hk1 hFc hP1 hD1
    generalize H1 = H at hP hS ⊢
    refine lv_aload_n hx hb (qaa qiE 3 rfl) rfl (lv_at hl 1 rfl) ?_
    refine va_get (D := (dC, dI)) (ci := 10) (v := .ref jaT) (C := RX10) (T := TX10) (N := 19) hx hb hts qdD hown hK hP 0 rfl rfl 8 (by decide) (hts _ qajm) (fun _ h9 => h9) rfl (qaa qiE 4 rfl) ?_
    refine lv_aload_n hx hb (qaa qiE 5 rfl) rfl (lv_at hl 1 rfl) ?_
    refine va_get (D := (dC, dI)) (ci := 10) (v := .ref jg9) (C := RX10) (T := TX10) (N := 19) hx hb hts qdD hown hK hP 0 rfl rfl 1 (by decide) (hts _ qCN) (fun _ h9 => h9) rfl (qaa qiE 6 rfl) ?_
    refine lv_aload_n hx hb (qaa qiE 7 rfl) rfl (lv_at hl 1 rfl) ?_
    refine va_get (D := (dC, dI)) (ci := 10) (v := .ref jb6) (C := RX10) (T := TX10) (N := 19) hx hb hts qdD hown hK hP 0 rfl rfl 3 (by decide) (hts _ qU1) (fun _ h9 => h9) rfl (qaa qiE 8 rfl) ?_
    obtain ⟨hCc, hPc, hDc, hFc⟩ := qac (ws' := (qbgC jaT jbb jbr jn3 jmF jbb cyI jbQ jg9 jkh jki jku jkv jkq jjG jkg jmj x8 x9 x10 x13 jkg cyI f11 jkq cyI f19 jjG cyI f20)) hP hD hS hA [16, 17, 2, 3, 9, 10] (by decide +kernel) rfl
    refine va_callv (va_runV (As := [.ref jg9, .ref jb6]) (rest := []) ⟨hx, hb, hml, hown, hts⟩ (qaC2 l dC dI cyB cyI cyJ cyP jaT jg9 jb6 jbb jkg jkq jjG H.size (jbr) (jn3) (jmF) (.ref jkh) (.ref jki) (.ref jku) (.ref jkv) (jmj) (.int x8) (.int x10) (.int x13) x9 f11 f19 f20 jbQ hw) (cwV 2 hts gX10_down_X1_begin rfl rfl rfl (by decide +kernel) ⟨nbq rfl, nbq rfl⟩) ⟨qab, va_recv (q := (RX1, TX1, 4)) hK hPc (ci := 1) (q0 := 0) rfl rfl, qae hPc hK hDc hNw⟩ rfl rfl hl.1 rfl (lv_room (nbq rfl)) (qaa qiE 9 rfl) ⟨nbq rfl, nbq rfl⟩) hS (fun q _ h => hFc q h) hFc (fun u t H1 locs ht hvm hw hB hz1 hk1 hS => ?_)
    obtain ⟨f30, rfl⟩ : ∃ z, z = u := ⟨_, rfl⟩
    obtain ⟨hP1, hK1, hD1⟩ := hB
    rw [ht] at hP1
    obtain ⟨hP, hD⟩ := qad (wr := [(a0, .inr (10, [.ref jaW, .ref jg9, .ref jaR, .ref jb6, jbc, .ref jg2, ja3, jbH, .ref jaT, jbO, .ref jeG, jac, jbI, jbl, jbn, .int jkc, .int jcn, jbA, .int x1])), (jaW, .inr (8, [.ref jfZ, .int x2, .int x12, .int x14, .int x5, .int x15, .int x16])), (jfZ, .inl (cyB, 600, .inl ji4)), (jkh, .inl (cyI, 8, .inl f21)), (jku, .inl (cyI, 4, .inl f17)), (jki, .inl (cyI, 8, .inl f22)), (jkv, .inl (cyI, 4, .inl f18)), (jb6, .inr (4, [.ref jbW, .ref jbL, jnn, jnb, .int x25])), (jbW, .inl (cyI, 150, .inl f26)), (jbL, .inl (cyI, 150, .inl f27)), (jg2, .inr (0, [.ref jiM, .int x28])), (jiM, .inl (cyI, 8, .inl f29)), (jeG, .inr (5, [jm2, .int jje]))]) (w1 := [(jaT, .inr (1, [.ref jbb, jbr, .ref jg9, .ref jb6])), (jbb, .inl (cyI, 64, .inl f30)), (jg9, .inr (2, [.ref jkh, .ref jki, .ref jku, .ref jkv, .ref jkq, .ref jjG, .ref jkg, jmj, .int x8, .int x9, .int x10, .int x13])), (jkg, .inl (cyI, 36, .inl f11)), (jkq, .inl (cyI, 6, .inl f19)), (jjG, .inl (cyI, 6, .inl f20))]) (wn := (qabt a0 jaW jg9 jaR jb6 jbc jg2 ja3 jbH jaT jbO jeG jac jbI jbl jbn jkc jcn jbA x1 jaW jfZ x2 x12 x14 x5 x15 x16 jg9 jkh jki jku jkv jkq jjG jkg jmj x8 x9 x10 x13 jkg cyI f11 jfZ cyB ji4 jkh cyI f21 jku cyI f17 jki cyI f22 jkv cyI f18 jkq cyI f19 jjG cyI f20 jb6 jbW jbL jnn jnb x25 jbW cyI f26 jbL cyI f27 jg2 jiM x28 jiM cyI f29 jaT jbb jbr jg9 jb6 jbb cyI f30 jeG jm2 jje)) hP hD [16, 17, 2, 3, 9, 10] [0, 1, 4, 5, 6, 7, 8, 11, 12, 13, 14, 15, 18] [0, 1, 15, 16, 2, 3, 4, 5, 6, 17, 18, 7, 8, 9, 10, 11, 13, 14, 12] hCc rfl (by decide +kernel) (by decide +kernel) (by decide +kernel) rfl hk1 hFc hP1 hD1
    generalize H1 = H at hP hS ⊢
    refine lv_aload_n hx hb (qaa qiE 10 rfl) rfl (lv_at hl 1 rfl) ?_
    refine va_get (D := (dC, dI)) (ci := 10) (v := .ref jeG) (C := RX10) (T := TX10) (N := 19) hx hb hts qdD hown hK hP 0 rfl rfl 10 (by decide) (hts _ qak1) (fun _ h9 => h9) rfl (qaa qiE 11 rfl) ?_
    refine lv_iconst (v := 0) hx hb (qaa qiE 12 rfl) (by decide) ?_
    refine va_put (D := (dC, dI)) (ci := 5) (v := .int 0) (ty := .int) (C := RX5) (T := TX5) (N := 2) hx hb hts qaqB tyX5 tyX5_ok nmX5 hown hK hP hD hS 18 rfl rfl 1 (by decide) (hts _ qafq) (fun _ h9 => h9) rfl (by decide +kernel) rfl rfl (nbq rfl) (qaa qiE 13 rfl) (fun H locs hP hD hS => ?_)
    have hP : va_P (dC, dI) vwCl (qabt a0 jaW jg9 jaR jb6 jbc jg2 ja3 jbH jaT jbO jeG jac jbI jbl jbn jkc jcn jbA x1 jaW jfZ x2 x12 x14 x5 x15 x16 jg9 jkh jki jku jkv jkq jjG jkg jmj x8 x9 x10 x13 jkg cyI f11 jfZ cyB ji4 jkh cyI f21 jku cyI f17 jki cyI f22 jkv cyI f18 jkq cyI f19 jjG cyI f20 jb6 jbW jbL jnn jnb x25 jbW cyI f26 jbL cyI f27 jg2 jiM x28 jiM cyI f29 jaT jbb jbr jg9 jb6 jbb cyI f30 jeG jm2 0) H := hP
    have hD : va_D A (qabt a0 jaW jg9 jaR jb6 jbc jg2 ja3 jbH jaT jbO jeG jac jbI jbl jbn jkc jcn jbA x1 jaW jfZ x2 x12 x14 x5 x15 x16 jg9 jkh jki jku jkv jkq jjG jkg jmj x8 x9 x10 x13 jkg cyI f11 jfZ cyB ji4 jkh cyI f21 jku cyI f17 jki cyI f22 jkv cyI f18 jkq cyI f19 jjG cyI f20 jb6 jbW jbL jnn jnb x25 jbW cyI f26 jbL cyI f27 jg2 jiM x28 jiM cyI f29 jaT jbb jbr jg9 jb6 jbb cyI f30 jeG jm2 0) := hD
    refine lv_aload_n hx hb (qaa qiE 14 rfl) rfl (lv_at hl 1 rfl) ?_
    refine lv_iconst (v := 0) hx hb (qaa qiE 15 rfl) (by decide) ?_
    refine va_put (D := (dC, dI)) (ci := 10) (v := .int 0) (ty := .int) (C := RX10) (T := TX10) (N := 19) hx hb hts qdD tyX10 tyX10_ok nmX10 hown hK hP hD hS 0 rfl rfl 15 (by decide) (hts _ qafn) (fun _ h9 => h9) rfl (by decide +kernel) rfl rfl (nbq rfl) (qaa qvq 0 rfl) (fun H locs hP hD hS => ?_)
    have hP : va_P (dC, dI) vwCl (qabt a0 jaW jg9 jaR jb6 jbc jg2 ja3 jbH jaT jbO jeG jac jbI jbl jbn 0 jcn jbA x1 jaW jfZ x2 x12 x14 x5 x15 x16 jg9 jkh jki jku jkv jkq jjG jkg jmj x8 x9 x10 x13 jkg cyI f11 jfZ cyB ji4 jkh cyI f21 jku cyI f17 jki cyI f22 jkv cyI f18 jkq cyI f19 jjG cyI f20 jb6 jbW jbL jnn jnb x25 jbW cyI f26 jbL cyI f27 jg2 jiM x28 jiM cyI f29 jaT jbb jbr jg9 jb6 jbb cyI f30 jeG jm2 0) H := hP
    have hD : va_D A (qabt a0 jaW jg9 jaR jb6 jbc jg2 ja3 jbH jaT jbO jeG jac jbI jbl jbn 0 jcn jbA x1 jaW jfZ x2 x12 x14 x5 x15 x16 jg9 jkh jki jku jkv jkq jjG jkg jmj x8 x9 x10 x13 jkg cyI f11 jfZ cyB ji4 jkh cyI f21 jku cyI f17 jki cyI f22 jkv cyI f18 jkq cyI f19 jjG cyI f20 jb6 jbW jbL jnn jnb x25 jbW cyI f26 jbL cyI f27 jg2 jiM x28 jiM cyI f29 jaT jbb jbr jg9 jb6 jbb cyI f30 jeG jm2 0) := hD
    refine lv_aload_n hx hb (qaa qvq 1 rfl) rfl (lv_at hl 1 rfl) ?_
    refine lv_iconst (v := 0) hx hb (qaa qvq 2 rfl) (by decide) ?_
    refine va_put (D := (dC, dI)) (ci := 10) (v := .int 0) (ty := .int) (C := RX10) (T := TX10) (N := 19) hx hb hts qdD tyX10 tyX10_ok nmX10 hown hK hP hD hS 0 rfl rfl 16 (by decide) (hts _ qaeA) (fun _ h9 => h9) rfl (by decide +kernel) rfl rfl (nbq rfl) (qaa qvq 3 rfl) (fun H locs hP hD hS => ?_)
    have hP : va_P (dC, dI) vwCl (qabt a0 jaW jg9 jaR jb6 jbc jg2 ja3 jbH jaT jbO jeG jac jbI jbl jbn 0 0 jbA x1 jaW jfZ x2 x12 x14 x5 x15 x16 jg9 jkh jki jku jkv jkq jjG jkg jmj x8 x9 x10 x13 jkg cyI f11 jfZ cyB ji4 jkh cyI f21 jku cyI f17 jki cyI f22 jkv cyI f18 jkq cyI f19 jjG cyI f20 jb6 jbW jbL jnn jnb x25 jbW cyI f26 jbL cyI f27 jg2 jiM x28 jiM cyI f29 jaT jbb jbr jg9 jb6 jbb cyI f30 jeG jm2 0) H := hP
    have hD : va_D A (qabt a0 jaW jg9 jaR jb6 jbc jg2 ja3 jbH jaT jbO jeG jac jbI jbl jbn 0 0 jbA x1 jaW jfZ x2 x12 x14 x5 x15 x16 jg9 jkh jki jku jkv jkq jjG jkg jmj x8 x9 x10 x13 jkg cyI f11 jfZ cyB ji4 jkh cyI f21 jku cyI f17 jki cyI f22 jkv cyI f18 jkq cyI f19 jjG cyI f20 jb6 jbW jbL jnn jnb x25 jbW cyI f26 jbL cyI f27 jg2 jiM x28 jiM cyI f29 jaT jbb jbr jg9 jb6 jbb cyI f30 jeG jm2 0) := hD
    refine lv_aload_n hx hb (qaa qvq 4 rfl) rfl (lv_at hl 1 rfl) ?_
    refine va_get (D := (dC, dI)) (ci := 10) (v := .ref jg9) (C := RX10) (T := TX10) (N := 19) hx hb hts qdD hown hK hP 0 rfl rfl 1 (by decide) (hts _ qCN) (fun _ h9 => h9) rfl (qaa qvq 5 rfl) ?_
    refine va_get (D := (dC, dI)) (ci := 2) (v := .int x9) (C := RX2) (T := TX2) (N := 12) hx hb hts qap6 hown hK hP 2 rfl rfl 9 (by decide) (hts _ qah9) (fun _ h9 => h9) rfl (qaa qvq 6 rfl) ?_
    exact vx_ret (W.widen (k := 1) (n := 6) (nbq rfl) (nbq rfl) (W.iret (v := x9) hx hb hr (fun t ht hW => ⟨⟨x9, (x1, x2, x12, x14, x5, x15, x16, x8, x9, x10, f11, x13, f17, f18, f19, f20, f21, f22, (.ref jg9), (.ref jaR), x25, f26, f27, x28, f29, f30, (.ref jg9), (.ref jb6), 0, 0, 0), rfl, hw, by rw [ht]; exact hP, va_K.moved hW.alike hK, hD⟩, hS.F ht⟩) hS.2.2 (qaa qvq 7 rfl)))
  · have hw := hw.2 c24
    refine lv_aload_n hx hb (qaa qmA 13 rfl) rfl (lv_at hl 0 rfl) ?_
    refine va_get (D := (dC, dI)) (ci := 10) (v := .ref jaW) (C := RX10) (T := TX10) (N := 19) hx hb hts qdD hown hK hP 0 rfl rfl 0 (by decide) (hts _ qJt) (fun _ h9 => h9) rfl (qaa qmA 14 rfl) ?_
    refine va_get (D := (dC, dI)) (ci := 8) (v := .int x15) (C := RX8) (T := TX8) (N := 7) hx hb hts qasE hown hK hP 1 rfl rfl 5 (by decide) (hts _ qagy) (fun _ h9 => h9) rfl (qaa qmA 15 rfl) ?_
    refine lv_bipush (v := 10) hx hb (qaa qj4 0 rfl) (by decide) ?_
    refine lv_isub hx hb (qaa qj4 1 rfl) ?_
    exact vx_ret (W.widen (k := 1) (n := 6) (nbq rfl) (nbq rfl) (W.iret (v := (x15 - 10)) hx hb hr (fun t ht hW => ⟨⟨(x15 - 10), (x1, x2, x12, x14, x5, x15, x16, x8, x9, x10, f11, x13, f17, f18, f19, f20, f21, f22, (.ref jaR), (.ref jg9), jdh, jdN, jdi, jlT, jk5, jbQ, jn3, jmF, jje, jkc, jcn), rfl, hw, by rw [ht]; exact hP, va_K.moved hW.alike hK, hD⟩, hS.F ht⟩) hS.2.2 (qaa qj4 2 rfl)))
theorem qasK : (.classLink RL 13 "java/lang/IllegalArgumentException" : Cond) ∈ wsL_down := qavb 595 (by decide +kernel)
theorem qaKY : (.codeWith yL_down cL_down 4 (some .int) [(0, 9, 12, 13)] : Cond) ∈ wsL_down := qavb 594 (by decide +kernel)
set_option maxHeartbeats 4000000 in
set_option maxRecDepth 100000 in
theorem qaZU (l : Launch) (dC : Nat → ClassId) (dI : Nat → Nat → Nat) (cyB cyI cyJ cyP : ClassId) (a0 a2 jaW jg9 jkg jfZ jkh jku jki jkv jkq jjG jb6 jbW jbL jg2 jiM jaT jbb jeG jaR sz : Nat) (jbc ja3 jbH jbO jac jbI jbl jbn jbA jmj jnn jnb jbr jm2 : Value) (n2 : Nat) (ji4 : NI) (jbz jk4 jlW jll jj0 jlm jjE jno jnp jnq : Int32) (jnr : NI) (jnB : Int32) (jnC jnD jnE jmV jns jnt : NI) (jdh : Int32) (jdN jdi : NI) (jlT : Int32) (jk5 jbQ : NI) (jn3 jmF : Value) (jje jkc jcn : Int32) (f2 : Nat → Int64) (p1 : Int32) {Q : Int32 → Int32 → Int32 → Int32 → Int32 → Int32 → Int32 → Int32 → Int32 → Int32 → Int32 → NI → Int32 → NI → NI → NI → NI → NI → NI → Value → Value → Int32 → NI → NI → Int32 → NI → NI → Value → Value → Int32 → Int32 → Int32 → (Nat → Int64) → Prop} (hw : qaDo jaR jg9 jb6 n2 ji4 jbz jk4 jlW jll jj0 jlm jjE jno jnp jnq jnr jnB jnC jnD jnE jmV jns jnt (.ref jaR) (.ref jg9) jdh jdN jdi jlT jk5 jbQ jn3 jmF jje jkc jcn f2 p1 Q) : Met l yL_down wsL_down ({ frames := 10, cells := 1, slots := 6, locals := 208 }) (va_Pc [.ref a0, .int p1, .ref a2] (cPs (zE) l (dC, dI) (kT cyB cyI cyJ cyP) (qali a0 jaW jaR jg9 jb6 jbc jg2 ja3 jbH jaT jbO jeG jac jbI jbl jbn jkc jcn jbA jbz jaW jfZ jk4 jlW jll jj0 jlm jjE jg9 jkh jki jku jkv jkq jjG jkg jmj jno jnp jnq jnB jkg cyI jnr jfZ cyB ji4 jkh cyI jns jku cyI jnC jki cyI jnt jkv cyI jnD jkq cyI jnE jjG cyI jmV jb6 jbW jbL jnn jnb jdh jbW cyI jdN jbL cyI jdi jg2 jiM jlT jiM cyI jk5 jaT jbb jbr jn3 jmF jbb cyI jbQ jeG jm2 jje a2 cyJ n2 f2) sz)) (va_Qi (fun (r : Int32) (u : Int32 × Int32 × Int32 × Int32 × Int32 × Int32 × Int32 × Int32 × Int32 × Int32 × NI × Int32 × NI × NI × NI × NI × NI × NI × Value × Value × Int32 × NI × NI × Int32 × NI × NI × Value × Value × Int32 × Int32 × Int32 × (Nat → Int64)) => Q r u.1 u.2.1 u.2.2.1 u.2.2.2.1 u.2.2.2.2.1 u.2.2.2.2.2.1 u.2.2.2.2.2.2.1 u.2.2.2.2.2.2.2.1 u.2.2.2.2.2.2.2.2.1 u.2.2.2.2.2.2.2.2.2.1 u.2.2.2.2.2.2.2.2.2.2.1 u.2.2.2.2.2.2.2.2.2.2.2.1 u.2.2.2.2.2.2.2.2.2.2.2.2.1 u.2.2.2.2.2.2.2.2.2.2.2.2.2.1 u.2.2.2.2.2.2.2.2.2.2.2.2.2.2.1 u.2.2.2.2.2.2.2.2.2.2.2.2.2.2.2.1 u.2.2.2.2.2.2.2.2.2.2.2.2.2.2.2.2.1 u.2.2.2.2.2.2.2.2.2.2.2.2.2.2.2.2.2.1 u.2.2.2.2.2.2.2.2.2.2.2.2.2.2.2.2.2.2.1 u.2.2.2.2.2.2.2.2.2.2.2.2.2.2.2.2.2.2.2.1 u.2.2.2.2.2.2.2.2.2.2.2.2.2.2.2.2.2.2.2.2.1 u.2.2.2.2.2.2.2.2.2.2.2.2.2.2.2.2.2.2.2.2.2.1 u.2.2.2.2.2.2.2.2.2.2.2.2.2.2.2.2.2.2.2.2.2.2.1 u.2.2.2.2.2.2.2.2.2.2.2.2.2.2.2.2.2.2.2.2.2.2.2.1 u.2.2.2.2.2.2.2.2.2.2.2.2.2.2.2.2.2.2.2.2.2.2.2.2.1 u.2.2.2.2.2.2.2.2.2.2.2.2.2.2.2.2.2.2.2.2.2.2.2.2.2.1 u.2.2.2.2.2.2.2.2.2.2.2.2.2.2.2.2.2.2.2.2.2.2.2.2.2.2.1 u.2.2.2.2.2.2.2.2.2.2.2.2.2.2.2.2.2.2.2.2.2.2.2.2.2.2.2.1 u.2.2.2.2.2.2.2.2.2.2.2.2.2.2.2.2.2.2.2.2.2.2.2.2.2.2.2.2.1 u.2.2.2.2.2.2.2.2.2.2.2.2.2.2.2.2.2.2.2.2.2.2.2.2.2.2.2.2.2.1 u.2.2.2.2.2.2.2.2.2.2.2.2.2.2.2.2.2.2.2.2.2.2.2.2.2.2.2.2.2.2.1 u.2.2.2.2.2.2.2.2.2.2.2.2.2.2.2.2.2.2.2.2.2.2.2.2.2.2.2.2.2.2.2) (cB (dC, dI) (kT cyB cyI cyJ cyP) (va_A (qali a0 jaW jaR jg9 jb6 jbc jg2 ja3 jbH jaT jbO jeG jac jbI jbl jbn jkc jcn jbA jbz jaW jfZ jk4 jlW jll jj0 jlm jjE jg9 jkh jki jku jkv jkq jjG jkg jmj jno jnp jnq jnB jkg cyI jnr jfZ cyB ji4 jkh cyI jns jku cyI jnC jki cyI jnt jkv cyI jnD jkq cyI jnE jjG cyI jmV jb6 jbW jbL jnn jnb jdh jbW cyI jdN jbL cyI jdi jg2 jiM jlT jiM cyI jk5 jaT jbb jbr jn3 jmF jbb cyI jbQ jeG jm2 jje a2 cyJ n2 f2) sz) (fun u : Int32 × Int32 × Int32 × Int32 × Int32 × Int32 × Int32 × Int32 × Int32 × Int32 × NI × Int32 × NI × NI × NI × NI × NI × NI × Value × Value × Int32 × NI × NI × Int32 × NI × NI × Value × Value × Int32 × Int32 × Int32 × (Nat → Int64) => ((qaiY a0 jaW u.2.2.2.2.2.2.2.2.2.2.2.2.2.2.2.2.2.2.1 u.2.2.2.2.2.2.2.2.2.2.2.2.2.2.2.2.2.2.2.1 jb6 jbc jg2 ja3 jbH jaT jbO jeG jac jbI jbl jbn u.2.2.2.2.2.2.2.2.2.2.2.2.2.2.2.2.2.2.2.2.2.2.2.2.2.2.2.2.2.1 u.2.2.2.2.2.2.2.2.2.2.2.2.2.2.2.2.2.2.2.2.2.2.2.2.2.2.2.2.2.2.1 jbA u.1 jaW jfZ u.2.1 u.2.2.1 u.2.2.2.1 u.2.2.2.2.1 u.2.2.2.2.2.1 u.2.2.2.2.2.2.1 jg9 jkh jki jku jkv jkq jjG jkg jmj u.2.2.2.2.2.2.2.1 u.2.2.2.2.2.2.2.2.1 u.2.2.2.2.2.2.2.2.2.1 u.2.2.2.2.2.2.2.2.2.2.2.1 jkg cyI u.2.2.2.2.2.2.2.2.2.2.1 jfZ cyB ji4 jkh cyI u.2.2.2.2.2.2.2.2.2.2.2.2.2.2.2.2.1 jku cyI u.2.2.2.2.2.2.2.2.2.2.2.2.1 jki cyI u.2.2.2.2.2.2.2.2.2.2.2.2.2.2.2.2.2.1 jkv cyI u.2.2.2.2.2.2.2.2.2.2.2.2.2.1 jkq cyI u.2.2.2.2.2.2.2.2.2.2.2.2.2.2.1 jjG cyI u.2.2.2.2.2.2.2.2.2.2.2.2.2.2.2.1 jb6 jbW jbL jnn jnb u.2.2.2.2.2.2.2.2.2.2.2.2.2.2.2.2.2.2.2.2.1 jbW cyI u.2.2.2.2.2.2.2.2.2.2.2.2.2.2.2.2.2.2.2.2.2.1 jbL cyI u.2.2.2.2.2.2.2.2.2.2.2.2.2.2.2.2.2.2.2.2.2.2.1 jg2 jiM u.2.2.2.2.2.2.2.2.2.2.2.2.2.2.2.2.2.2.2.2.2.2.2.1 jiM cyI u.2.2.2.2.2.2.2.2.2.2.2.2.2.2.2.2.2.2.2.2.2.2.2.2.1 jaT jbb jbr u.2.2.2.2.2.2.2.2.2.2.2.2.2.2.2.2.2.2.2.2.2.2.2.2.2.2.1 u.2.2.2.2.2.2.2.2.2.2.2.2.2.2.2.2.2.2.2.2.2.2.2.2.2.2.2.1 jbb cyI u.2.2.2.2.2.2.2.2.2.2.2.2.2.2.2.2.2.2.2.2.2.2.2.2.2.1 jeG jm2 u.2.2.2.2.2.2.2.2.2.2.2.2.2.2.2.2.2.2.2.2.2.2.2.2.2.2.2.2.1 a2 cyJ n2 u.2.2.2.2.2.2.2.2.2.2.2.2.2.2.2.2.2.2.2.2.2.2.2.2.2.2.2.2.2.2.2) : va_W))) (va_A (qali a0 jaW jaR jg9 jb6 jbc jg2 ja3 jbH jaT jbO jeG jac jbI jbl jbn jkc jcn jbA jbz jaW jfZ jk4 jlW jll jj0 jlm jjE jg9 jkh jki jku jkv jkq jjG jkg jmj jno jnp jnq jnB jkg cyI jnr jfZ cyB ji4 jkh cyI jns jku cyI jnC jki cyI jnt jkv cyI jnD jkq cyI jnE jjG cyI jmV jb6 jbW jbL jnn jnb jdh jbW cyI jdN jbL cyI jdi jg2 jiM jlT jiM cyI jk5 jaT jbb jbr jn3 jmF jbb cyI jbQ jeG jm2 jje a2 cyJ n2 f2) sz)) 1 6 (va_A (qali a0 jaW jaR jg9 jb6 jbc jg2 ja3 jbH jaT jbO jeG jac jbI jbl jbn jkc jcn jbA jbz jaW jfZ jk4 jlW jll jj0 jlm jjE jg9 jkh jki jku jkv jkq jjG jkg jmj jno jnp jnq jnB jkg cyI jnr jfZ cyB ji4 jkh cyI jns jku cyI jnC jki cyI jnt jkv cyI jnD jkq cyI jnE jjG cyI jmV jb6 jbW jbL jnn jnb jdh jbW cyI jdN jbL cyI jdi jg2 jiM jlT jiM cyI jk5 jaT jbb jbr jn3 jmF jbb cyI jbQ jeG jm2 jje a2 cyJ n2 f2) sz) := by
  refine va_MetW (cc := cL_down) (maxL := 4) (ret := (some .int)) (by decide) rfl ?_
  intro p e s m args below meth c s₁ B hml hv
  obtain ⟨rfl, ⟨hsz, hP, hK, hD0, hNw, hXl, hXu, hXn, hXt⟩, hE0⟩ := hv
  have hx := B.exec
  have hb := B.bytes
  have hr := B.returns
  have hts := atoms_spec (ws := wsL_down) B.pre
  have hown : s.vm.findClass RL = some m.cls := findClass_of_methodNamed B.named
  have hlocks := B.notSynchronized
  subst hsz
  have hD := hD0.self (sz := s.heap.size)
  generalize hAe : va_A (qali a0 jaW jaR jg9 jb6 jbc jg2 ja3 jbH jaT jbO jeG jac jbI jbl jbn jkc jcn jbA jbz jaW jfZ jk4 jlW jll jj0 jlm jjE jg9 jkh jki jku jkv jkq jjG jkg jmj jno jnp jnq jnB jkg cyI jnr jfZ cyB ji4 jkh cyI jns jku cyI jnC jki cyI jnt jkv cyI jnD jkq cyI jnE jjG cyI jmV jb6 jbW jbL jnn jnb jdh jbW cyI jdN jbL cyI jdi jg2 jiM jlT jiM cyI jk5 jaT jbb jbr jn3 jmF jbb cyI jbQ jeG jm2 jje a2 cyJ n2 f2) s.heap.size = A at hD hXu hXn hE0 ⊢
  have hA : ∀ q : Nat, s.heap.size ≤ q → A q := fun q h => by rw [← hAe]; exact Or.inr h
  have hS : va_S A s.heap s.heap [] := va_S.rf
  have hP : va_P (dC, dI) vwCl (qali a0 jaW jaR jg9 jb6 jbc jg2 ja3 jbH jaT jbO jeG jac jbI jbl jbn jkc jcn jbA jbz jaW jfZ jk4 jlW jll jj0 jlm jjE jg9 jkh jki jku jkv jkq jjG jkg jmj jno jnp jnq jnB jkg cyI jnr jfZ cyB ji4 jkh cyI jns jku cyI jnC jki cyI jnt jkv cyI jnD jkq cyI jnE jjG cyI jmV jb6 jbW jbL jnn jnb jdh jbW cyI jdN jbL cyI jdi jg2 jiM jlT jiM cyI jk5 jaT jbb jbr jn3 jmF jbb cyI jbQ jeG jm2 jje a2 cyJ n2 f2) s.heap := hP
  have hl := lv_entry ([.ref a0, .int p1, .ref a2]) (n := 4) (nbq rfl)
  rw [lg_entry_eq]
  generalize (lg_sl ([.ref a0, .int p1, .ref a2]) ++ List.replicate (4 - (lg_sl ([.ref a0, .int p1, .ref a2])).length) Slot.unset).toArray = ls at hl ⊢
  have hl : lv_has ls 4 [(0, .ref a0), (1, .int p1), (2, .ref a2)] := hl
  have hY : cfY l s A := ⟨hXl, hXu, hXn, hXt⟩
  have hE := hE0
  have hTb := vx_table (x := yL_down) B (hts _ qaKY)
  clear hAe
  obtain ⟨H, hH⟩ : ∃ H, H = s.heap := ⟨_, rfl⟩
  rw [← hH] at hP ⊢
  have hS : va_S A s.heap H [] := by rw [hH]; exact va_S.rf
  have hS := hS
  refine lv_aload_n hx hb (qaa qtk 0 rfl) rfl (lv_at hl 2 rfl) ?_
  refine lv_iconst (v := 0) hx hb (qaa qtk 1 rfl) (by decide) ?_
  refine lv_aload_n hx hb (qaa qtk 2 rfl) rfl (lv_at hl 0 rfl) ?_
  refine lv_iload_n hx hb (qaa qtk 3 rfl) rfl (lv_at hl 1 rfl) ?_
  obtain ⟨hCc, hPc, hDc, hFc⟩ := qac (ws' := (qzN a0 jaW jaR jg9 jb6 jbc jg2 ja3 jbH jaT jbO jeG jac jbI jbl jbn jkc jcn jbA jbz jaW jfZ jk4 jlW jll jj0 jlm jjE jg9 jkh jki jku jkv jkq jjG jkg jmj jno jnp jnq jnB jkg cyI jnr jfZ cyB ji4 jkh cyI jns jku cyI jnC jki cyI jnt jkv cyI jnD jkq cyI jnE jjG cyI jmV jb6 jbW jbL jnn jnb jdh jbW cyI jdN jbL cyI jdi jg2 jiM jlT jiM cyI jk5 jaT jbb jbr jn3 jmF jbb cyI jbQ jeG jm2 jje)) hP hD hS hA [0, 1, 2, 3, 4, 5, 6, 7, 8, 9, 10, 11, 12, 13, 14, 15, 16, 17, 18] (by decide +kernel) rfl
  refine vx_calli (vx_runV (As := [.int p1]) (rest := [.int 0, .ref a2]) ⟨hx, hb, hml, hown, hts⟩ (qaM3 l dC dI cyB cyI cyJ cyP a0 jaW jg9 jkg jfZ jkh jku jki jkv jkq jjG jaR jb6 jbW jbL jg2 jiM jaT jbb jeG H.size (jbc) (ja3) (jbH) (jbO) (jac) (jbI) (jbl) (jbn) (jbA) (jmj) (jnn) (jnb) (jbr) (jm2) ji4 jbz jk4 jlW jll jj0 jlm jjE jno jnp jnq jnr jnB jnC jnD jnE jmV jns jnt jdh jdN jdi jlT jk5 jbQ jn3 jmF jje jkc jcn p1 hw) (cwV 1 hts gL_down_X10_down rfl rfl rfl (by decide +kernel) ⟨nbq rfl, nbq rfl⟩) ⟨qat qsL, va_recv (q := (RX10, TX10, 19)) hK hPc (ci := 10) (q0 := 0) rfl rfl, qbg qsL hPc hK hDc hNw hY hE hS hFc⟩ rfl rfl hl.1 rfl (lv_room (nbq rfl)) (qaa qtk 4 rfl) ⟨nbq rfl, nbq rfl⟩) hS (fun q _ h => hFc q h) hFc (fun q _ h => hFc q h) (fun en ce qx9 u t H1 locs ht hvm hpx hB hz1 hk1 hS hc9 hv9 hcl9 => ?_) (fun r32 u t H1 locs ht hvm hw hB hz1 hk1 hS => ?_)
  · obtain ⟨x1, x2, x3, x4, x5, x6, x7, x8, x9, x10, f11, x12, f13, f14, f15, f16, f17, f18, q19, q20, x21, f22, f23, x24, f25, f26, q27, q28, x29, x30, x31⟩ := u
    obtain ⟨hw, hP1, hK1, hD1⟩ := hB
    rw [ht] at hP1
    obtain ⟨hP, hD⟩ := qad (wr := [(a2, .inl (cyJ, n2, .inr (.inl f2)))]) (w1 := (qaSp a0 jaW q19 q20 jb6 jbc jg2 ja3 jbH jaT jbO jeG jac jbI jbl jbn x30 x31 jbA x1 jaW jfZ x2 x3 x4 x5 x6 x7 jg9 jkh jki jku jkv jkq jjG jkg jmj x8 x9 x10 x12 jkg cyI f11 jfZ cyB ji4 jkh cyI f17 jku cyI f13 jki cyI f18 jkv cyI f14 jkq cyI f15 jjG cyI f16 jb6 jbW jbL jnn jnb x21 jbW cyI f22 jbL cyI f23 jg2 jiM x24 jiM cyI f25 jaT jbb jbr q27 q28 jbb cyI f26 jeG jm2 x29)) (wn := (qaiY a0 jaW q19 q20 jb6 jbc jg2 ja3 jbH jaT jbO jeG jac jbI jbl jbn x30 x31 jbA x1 jaW jfZ x2 x3 x4 x5 x6 x7 jg9 jkh jki jku jkv jkq jjG jkg jmj x8 x9 x10 x12 jkg cyI f11 jfZ cyB ji4 jkh cyI f17 jku cyI f13 jki cyI f18 jkv cyI f14 jkq cyI f15 jjG cyI f16 jb6 jbW jbL jnn jnb x21 jbW cyI f22 jbL cyI f23 jg2 jiM x24 jiM cyI f25 jaT jbb jbr q27 q28 jbb cyI f26 jeG jm2 x29 a2 cyJ n2 f2)) hP hD [0, 1, 2, 3, 4, 5, 6, 7, 8, 9, 10, 11, 12, 13, 14, 15, 16, 17, 18] [19] [1, 2, 3, 4, 5, 6, 7, 8, 9, 10, 11, 12, 13, 14, 15, 16, 17, 18, 19, 0] hCc rfl (by decide +kernel) (by decide +kernel) (by decide +kernel) rfl hk1 hFc hP1 hD1
    generalize H1 = H at hP hS hc9 ⊢
    obtain ⟨rfl, hw⟩ := hw
    refine vx_catch (own := RL) (name := "java/lang/IllegalArgumentException") hown [] ⟨0, 9, 12, 13⟩ [] (hTb.trans rfl) (fun z hz => nomatch hz) (by decide) (by decide) (hts _ qasK) (va_Nw.use rfl (hY.2.2.2.1.2 _ (List.mem_of_getElem? (i := 0) rfl))) hc9 hv9 hcl9 ?_
    refine lv_astore_n (lv' := [(3, .ref qx9), (0, .ref a0), (1, .int p1), (2, .ref a2)]) hx hb (qaa qtk 8 rfl) rfl hl (by decide) rfl (fun ls hl => ?_)
    refine lv_iconst (v := 1) hx hb (qaa qtk 9 rfl) (by decide) ?_
    exact (W.widen (k := 1) (n := 6) (nbq rfl) (nbq rfl) (W.iret (v := 1) hx hb hr (fun t ht hW => ⟨⟨1, (x1, x2, x3, x4, x5, x6, x7, x8, x9, x10, f11, x12, f13, f14, f15, f16, f17, f18, q19, q20, x21, f22, f23, x24, f25, f26, q27, q28, x29, x30, x31, f2), rfl, hw, by rw [ht]; exact hP, va_K.moved hW.alike hK, hD⟩, hS.F ht⟩) hS.2.2 (qaa qtk 10 rfl)))
  obtain ⟨x1, x2, x3, x4, x5, x6, x7, x8, x9, x10, f11, x12, f13, f14, f15, f16, f17, f18, q19, q20, x21, f22, f23, x24, f25, f26, q27, q28, x29, x30, x31⟩ := u
  obtain ⟨hP1, hK1, hD1⟩ := hB
  rw [ht] at hP1
  obtain ⟨hP, hD⟩ := va_join (wr := [(a2, .inl (cyJ, n2, .inr (.inl f2)))]) (w1 := (qaSp a0 jaW q19 q20 jb6 jbc jg2 ja3 jbH jaT jbO jeG jac jbI jbl jbn x30 x31 jbA x1 jaW jfZ x2 x3 x4 x5 x6 x7 jg9 jkh jki jku jkv jkq jjG jkg jmj x8 x9 x10 x12 jkg cyI f11 jfZ cyB ji4 jkh cyI f17 jku cyI f13 jki cyI f18 jkv cyI f14 jkq cyI f15 jjG cyI f16 jb6 jbW jbL jnn jnb x21 jbW cyI f22 jbL cyI f23 jg2 jiM x24 jiM cyI f25 jaT jbb jbr q27 q28 jbb cyI f26 jeG jm2 x29)) hP hD [0, 1, 2, 3, 4, 5, 6, 7, 8, 9, 10, 11, 12, 13, 14, 15, 16, 17, 18] [19] rfl rfl (by decide) (by decide) hk1 hFc hP1 hD1
  have hP : va_P (dC, dI) vwCl (qaiY a0 jaW q19 q20 jb6 jbc jg2 ja3 jbH jaT jbO jeG jac jbI jbl jbn x30 x31 jbA x1 jaW jfZ x2 x3 x4 x5 x6 x7 jg9 jkh jki jku jkv jkq jjG jkg jmj x8 x9 x10 x12 jkg cyI f11 jfZ cyB ji4 jkh cyI f17 jku cyI f13 jki cyI f18 jkv cyI f14 jkq cyI f15 jjG cyI f16 jb6 jbW jbL jnn jnb x21 jbW cyI f22 jbL cyI f23 jg2 jiM x24 jiM cyI f25 jaT jbb jbr q27 q28 jbb cyI f26 jeG jm2 x29 a2 cyJ n2 f2) H1 := hP.sub [1, 2, 3, 4, 5, 6, 7, 8, 9, 10, 11, 12, 13, 14, 15, 16, 17, 18, 19, 0] rfl
  have hD : va_D A (qaiY a0 jaW q19 q20 jb6 jbc jg2 ja3 jbH jaT jbO jeG jac jbI jbl jbn x30 x31 jbA x1 jaW jfZ x2 x3 x4 x5 x6 x7 jg9 jkh jki jku jkv jkq jjG jkg jmj x8 x9 x10 x12 jkg cyI f11 jfZ cyB ji4 jkh cyI f17 jku cyI f13 jki cyI f18 jkv cyI f14 jkq cyI f15 jjG cyI f16 jb6 jbW jbL jnn jnb x21 jbW cyI f22 jbL cyI f23 jg2 jiM x24 jiM cyI f25 jaT jbb jbr q27 q28 jbb cyI f26 jeG jm2 x29 a2 cyJ n2 f2) := hD.sub [1, 2, 3, 4, 5, 6, 7, 8, 9, 10, 11, 12, 13, 14, 15, 16, 17, 18, 19, 0] (by decide) rfl
  generalize H1 = H at hP hS ⊢
  refine lv_i2l (v := r32.toInt64) hx hb (qaa qtk 5 rfl) rfl ?_
  refine lv_topl (fun x33 ex33 => ?_)
  have hw := hw x33 ex33
  obtain ⟨hi9, hw⟩ := hw
  refine va_last hx hb hK hP hD hS 19 2 rfl rfl hi9 (qaa qtk 6 rfl) (fun H locs hP hD hS => ?_)
  obtain ⟨f34, ef34⟩ : ∃ y : Nat → Int64, y = vp_updL f2 (0 : Int32).toNatClampNeg x33 := ⟨_, rfl⟩
  have hw := hw f34 ef34
  have hP : va_P (dC, dI) vwCl (qaiY a0 jaW q19 q20 jb6 jbc jg2 ja3 jbH jaT jbO jeG jac jbI jbl jbn x30 x31 jbA x1 jaW jfZ x2 x3 x4 x5 x6 x7 jg9 jkh jki jku jkv jkq jjG jkg jmj x8 x9 x10 x12 jkg cyI f11 jfZ cyB ji4 jkh cyI f17 jku cyI f13 jki cyI f18 jkv cyI f14 jkq cyI f15 jjG cyI f16 jb6 jbW jbL jnn jnb x21 jbW cyI f22 jbL cyI f23 jg2 jiM x24 jiM cyI f25 jaT jbb jbr q27 q28 jbb cyI f26 jeG jm2 x29 a2 cyJ n2 f34) H := by rw [ef34]; exact hP
  have hD : va_D A (qaiY a0 jaW q19 q20 jb6 jbc jg2 ja3 jbH jaT jbO jeG jac jbI jbl jbn x30 x31 jbA x1 jaW jfZ x2 x3 x4 x5 x6 x7 jg9 jkh jki jku jkv jkq jjG jkg jmj x8 x9 x10 x12 jkg cyI f11 jfZ cyB ji4 jkh cyI f17 jku cyI f13 jki cyI f18 jkv cyI f14 jkq cyI f15 jjG cyI f16 jb6 jbW jbL jnn jnb x21 jbW cyI f22 jbL cyI f23 jg2 jiM x24 jiM cyI f25 jaT jbb jbr q27 q28 jbb cyI f26 jeG jm2 x29 a2 cyJ n2 f34) := by rw [ef34]; exact hD
  refine lv_goto (tgt := 15) hx hb (qaa qtk 7 rfl) (by decide) ?_
  refine lv_iconst (v := 0) hx hb (qaa qtk 11 rfl) (by decide) ?_
  exact (W.widen (k := 1) (n := 6) (nbq rfl) (nbq rfl) (W.iret (v := 0) hx hb hr (fun t ht hW => ⟨⟨0, (x1, x2, x3, x4, x5, x6, x7, x8, x9, x10, f11, x12, f13, f14, f15, f16, f17, f18, q19, q20, x21, f22, f23, x24, f25, f26, q27, q28, x29, x30, x31, f34), rfl, hw, by rw [ht]; exact hP, va_K.moved hW.alike hK, hD⟩, hS.F ht⟩) hS.2.2 (qaa qtk 12 rfl)))
theorem qsX : ∀ w ∈ u_ws RX9 TX9 12, w ∈ wsX9_readStep := uiM qnC euX9 (by decide +kernel)
theorem quQ : (.fieldLink RX9 30 "MarchHares$Work" "hares" "I" : Cond) ∈ wsX9_readStep := qnC 1604 (by decide +kernel)
theorem q6g : (.fieldLink RX9 34 "MarchHares$Work" "forms" "I" : Cond) ∈ wsX9_readStep := qnC 1605 (by decide +kernel)
set_option maxHeartbeats 4000000 in
set_option maxRecDepth 100000 in
theorem quR {p : Program} {l : Launch} {e : Env} {s : State} {m : MethodId} {args : Array Value} {below : List Frame} {meth : Method} {c : Code} {A : Nat → Prop} (dC : Nat → ClassId) (dI : Nat → Nat → Nat) (cyB cyI cyJ cyP : ClassId) (a0 a1 jbF jbU jgC jgh jho jju : Nat) (jkw jaG jaF jcI : Value) (jaC jaN jb3 : Int32) (jcq : NI) (Q : Int32 → Int32 → Int32 → Int32 → NI → NI → NI → NI → Int32 → NI → Int32 → Prop) (C0 : cfx p s m args meth c cX9_readStep none wsX9_readStep RX9 4 A (dC, dI) (kT cyB cyI cyJ cyP) ∧ cfY l s A ∧ zE A s s.heap) : ∀ (H : Heap) (locs : List Loc) (ls : Array Slot) (jhR jeF jcU jbM : Int32) (jdC jiX jiF jjg : NI) (jb7 : Int32) (jlb : NI) (jjF : Int32), va_P (dC, dI) vwCl (qsi a0 jbU jgC jgh jho jju jkw jb7 jjF jaC jaN jaG jaF a1 jbF jb3 jhR jeF jcI jcU jbM jbF cyB jcq jbU cyI jdC jgC cyI jiX jgh cyI jiF jho cyI jjg jju cyI jlb) H → va_D A (qsi a0 jbU jgC jgh jho jju jkw jb7 jjF jaC jaN jaG jaF a1 jbF jb3 jhR jeF jcI jcU jbM jbF cyB jcq jbU cyI jdC jgC cyI jiX jgh cyI jiF jho cyI jjg jju cyI jlb) → va_S A s.heap H locs → lv_has ls 4 [(1, .ref a1)] → qpX jaC jaN jb3 jcq Q jhR jeF jcU jbM jdC jiX jiF jjg jb7 jlb jjF → W p l e (headSpec wsX9_readStep ({ frames := 5, cells := 0, slots := 0, locals := 108 })).room s m args below meth c H locs 0 0 (MQ below (va_Qv (fun (u : Int32 × Int32 × Int32 × Int32 × NI × NI × NI × NI × Int32 × NI × Int32) => Q u.1 u.2.1 u.2.2.1 u.2.2.2.1 u.2.2.2.2.1 u.2.2.2.2.2.1 u.2.2.2.2.2.2.1 u.2.2.2.2.2.2.2.1 u.2.2.2.2.2.2.2.2.1 u.2.2.2.2.2.2.2.2.2.1 u.2.2.2.2.2.2.2.2.2.2) (cB (dC, dI) (kT cyB cyI cyJ cyP) A (fun u : Int32 × Int32 × Int32 × Int32 × NI × NI × NI × NI × Int32 × NI × Int32 => ((qsi a0 jbU jgC jgh jho jju jkw u.2.2.2.2.2.2.2.2.1 u.2.2.2.2.2.2.2.2.2.2 jaC jaN jaG jaF a1 jbF jb3 u.1 u.2.1 jcI u.2.2.1 u.2.2.2.1 jbF cyB jcq jbU cyI u.2.2.2.2.1 jgC cyI u.2.2.2.2.2.1 jgh cyI u.2.2.2.2.2.2.1 jho cyI u.2.2.2.2.2.2.2.1 jju cyI u.2.2.2.2.2.2.2.2.2.1) : va_W))) A) args s 0 0 A) (F0 m 173 ls []) := by
  obtain ⟨⟨hx, hb, hr, hts, hown, hlocks, hml, hA, hK, hNw⟩, hY, hE0⟩ := id C0
  have hE := hE0
  intro H locs ls jhR jeF jcU jbM jdC jiX jiF jjg jb7 jlb jjF hP hD hS hl hw
  refine lv_aload_n hx hb (qaa qoU 5 rfl) rfl (lv_at hl 0 rfl) ?_
  refine lv_bipush (v := 59) hx hb (qaa qoU 6 rfl) (by decide) ?_
  obtain ⟨hCc, hPc, hDc, hFc⟩ := qac (ws' := (qqX a1 jbF jb3 jhR jeF jcI jcU jbM jbF cyB jcq)) hP hD hS hA [1, 2] (by decide +kernel) rfl
  refine va_callv (va_runV (As := [.int 59]) (rest := []) ⟨hx, hb, hml, hown, hts⟩ (qsY l dC dI cyB cyI cyJ cyP a1 jbF H.size (jcI) jb3 jcq jhR jeF jcU jbM 59 hw) (cwV 1 hts gX9_readStep_X8_needs rfl rfl rfl (by decide +kernel) ⟨nbq rfl, nbq rfl⟩) ⟨qab, va_recv (q := (RX8, TX8, 7)) hK hPc (ci := 8) (q0 := 0) rfl rfl, qae hPc hK hDc hNw⟩ rfl rfl hl.1 rfl (lv_room (nbq rfl)) (qaa qoU 7 rfl) ⟨nbq rfl, nbq rfl⟩) hS (fun q _ h => hFc q h) hFc (fun u t H1 locs ht hvm hw hB hz1 hk1 hS => ?_)
  obtain ⟨x95, x96, x97, x98⟩ := u
  obtain ⟨hP1, hK1, hD1⟩ := hB
  rw [ht] at hP1
  obtain ⟨hP, hD⟩ := qad (wr := (qGN a0 jbU jgC jgh jho jju jkw jb7 jjF jaC jaN jaG jaF jbU cyI jdC jgC cyI jiX jgh cyI jiF jho cyI jjg jju cyI jlb)) (w1 := (qqX a1 jbF jb3 x95 x96 jcI x97 x98 jbF cyB jcq)) (wn := (qsi a0 jbU jgC jgh jho jju jkw jb7 jjF jaC jaN jaG jaF a1 jbF jb3 x95 x96 jcI x97 x98 jbF cyB jcq jbU cyI jdC jgC cyI jiX jgh cyI jiF jho cyI jjg jju cyI jlb)) hP hD [1, 2] [0, 3, 4, 5, 6, 7] [0, 6, 7, 1, 2, 3, 4, 5] hCc rfl (by decide +kernel) (by decide +kernel) (by decide +kernel) rfl hk1 hFc hP1 hD1
  generalize H1 = H at hP hS ⊢
  exact ((W.vret hx hb hr (fun t ht hW => ⟨⟨(x95, x96, x97, x98, jdC, jiX, jiF, jjg, jb7, jlb, jjF), rfl, hw, by rw [ht]; exact hP, va_K.moved hW.alike hK, hD⟩, hS.F ht⟩) hS.2.2 (qaa qoU 8 rfl)))
set_option maxHeartbeats 4000000 in
set_option maxRecDepth 100000 in
theorem qas5 (l : Launch) (dC : Nat → ClassId) (dI : Nat → Nat → Nat) (cyB cyI cyJ cyP : ClassId) (a0 a1 jbF jbU jgC jgh jho jju sz : Nat) (jkw jaG jaF jcI : Value) (jaC jaN jb3 : Int32) (jcq : NI) (jhR jeF jcU jbM : Int32) (jdC jiX jiF jjg : NI) (jb7 : Int32) (jlb : NI) (jjF : Int32) {Q : Int32 → Int32 → Int32 → Int32 → NI → NI → NI → NI → Int32 → NI → Int32 → Prop} (hw : qMe jaC jaN jb3 jcq jhR jeF jcU jbM jdC jiX jiF jjg jb7 jlb jjF Q) : Met l yX9_readStep wsX9_readStep ({ frames := 5, cells := 0, slots := 0, locals := 108 }) (va_Pc [.ref a0, .ref a1] (cPs (zE) l (dC, dI) (kT cyB cyI cyJ cyP) (qsi a0 jbU jgC jgh jho jju jkw jb7 jjF jaC jaN jaG jaF a1 jbF jb3 jhR jeF jcI jcU jbM jbF cyB jcq jbU cyI jdC jgC cyI jiX jgh cyI jiF jho cyI jjg jju cyI jlb) sz)) (va_Qv (fun (u : Int32 × Int32 × Int32 × Int32 × NI × NI × NI × NI × Int32 × NI × Int32) => Q u.1 u.2.1 u.2.2.1 u.2.2.2.1 u.2.2.2.2.1 u.2.2.2.2.2.1 u.2.2.2.2.2.2.1 u.2.2.2.2.2.2.2.1 u.2.2.2.2.2.2.2.2.1 u.2.2.2.2.2.2.2.2.2.1 u.2.2.2.2.2.2.2.2.2.2) (cB (dC, dI) (kT cyB cyI cyJ cyP) (va_A (qsi a0 jbU jgC jgh jho jju jkw jb7 jjF jaC jaN jaG jaF a1 jbF jb3 jhR jeF jcI jcU jbM jbF cyB jcq jbU cyI jdC jgC cyI jiX jgh cyI jiF jho cyI jjg jju cyI jlb) sz) (fun u : Int32 × Int32 × Int32 × Int32 × NI × NI × NI × NI × Int32 × NI × Int32 => ((qsi a0 jbU jgC jgh jho jju jkw u.2.2.2.2.2.2.2.2.1 u.2.2.2.2.2.2.2.2.2.2 jaC jaN jaG jaF a1 jbF jb3 u.1 u.2.1 jcI u.2.2.1 u.2.2.2.1 jbF cyB jcq jbU cyI u.2.2.2.2.1 jgC cyI u.2.2.2.2.2.1 jgh cyI u.2.2.2.2.2.2.1 jho cyI u.2.2.2.2.2.2.2.1 jju cyI u.2.2.2.2.2.2.2.2.2.1) : va_W))) (va_A (qsi a0 jbU jgC jgh jho jju jkw jb7 jjF jaC jaN jaG jaF a1 jbF jb3 jhR jeF jcI jcU jbM jbF cyB jcq jbU cyI jdC jgC cyI jiX jgh cyI jiF jho cyI jjg jju cyI jlb) sz)) 0 0 (va_A (qsi a0 jbU jgC jgh jho jju jkw jb7 jjF jaC jaN jaG jaF a1 jbF jb3 jhR jeF jcI jcU jbM jbF cyB jcq jbU cyI jdC jgC cyI jiX jgh cyI jiF jho cyI jjg jju cyI jlb) sz) := by
  refine Met.ofW (cc := cX9_readStep) (maxL := 4) (ret := none) (by decide) rfl ?_
  intro p e s m args below meth c s₁ B hml hv
  obtain ⟨rfl, ⟨hsz, hP, hK, hD0, hNw, hXl, hXu, hXn, hXt⟩, hE0⟩ := hv
  have hx := B.exec
  have hb := B.bytes
  have hr := B.returns
  have hts := atoms_spec (ws := wsX9_readStep) B.pre
  have hown : s.vm.findClass RX9 = some m.cls := findClass_of_methodNamed B.named
  have hlocks := B.notSynchronized
  subst hsz
  have hD := hD0.self (sz := s.heap.size)
  generalize hAe : va_A (qsi a0 jbU jgC jgh jho jju jkw jb7 jjF jaC jaN jaG jaF a1 jbF jb3 jhR jeF jcI jcU jbM jbF cyB jcq jbU cyI jdC jgC cyI jiX jgh cyI jiF jho cyI jjg jju cyI jlb) s.heap.size = A at hD hXu hXn hE0 ⊢
  have hA : ∀ q : Nat, s.heap.size ≤ q → A q := fun q h => by rw [← hAe]; exact Or.inr h
  have hS : va_S A s.heap s.heap [] := va_S.rf
  have hP : va_P (dC, dI) vwCl (qsi a0 jbU jgC jgh jho jju jkw jb7 jjF jaC jaN jaG jaF a1 jbF jb3 jhR jeF jcI jcU jbM jbF cyB jcq jbU cyI jdC jgC cyI jiX jgh cyI jiF jho cyI jjg jju cyI jlb) s.heap := hP
  have hl := lv_entry ([.ref a0, .ref a1]) (n := 4) (nbq rfl)
  rw [lg_entry_eq]
  generalize (lg_sl ([.ref a0, .ref a1]) ++ List.replicate (4 - (lg_sl ([.ref a0, .ref a1])).length) Slot.unset).toArray = ls at hl ⊢
  have hl : lv_has ls 4 [(0, .ref a0), (1, .ref a1)] := hl
  have hY : cfY l s A := ⟨hXl, hXu, hXn, hXt⟩
  have C0 : cfx p s m _ meth c cX9_readStep none wsX9_readStep RX9 4 A (dC, dI) (kT cyB cyI cyJ cyP) ∧ cfY l s A ∧ zE A s s.heap := ⟨⟨hx, hb, hr, hts, hown, hlocks, hml, hA, hK, hNw⟩, hY, hE0⟩
  have hE := hE0
  clear hAe
  obtain ⟨H, hH⟩ : ∃ H, H = s.heap := ⟨_, rfl⟩
  rw [← hH] at hP ⊢
  have hS : va_S A s.heap H [] := by rw [hH]; exact va_S.rf
  have hS := hS
  refine lv_aload_n hx hb (qaa qfg 0 rfl) rfl (lv_at hl 1 rfl) ?_
  obtain ⟨k1, hRk1, hZk1⟩ := qbbA hE
  refine va_ldcS hx hb hown hRk1 (qaa qfg 1 rfl) ?_
  obtain ⟨hCc, hPc, hDc, hFc⟩ := qac (ws' := (qqX a1 jbF jb3 jhR jeF jcI jcU jbM jbF cyB jcq)) hP hD hS hA [1, 2] (by decide +kernel) rfl
  refine va_calli (va_runV (As := [.ref k1]) (rest := []) ⟨hx, hb, hml, hown, hts⟩ (qb9 l dC dI cyB cyI cyJ cyP a1 k1 jbF H.size (jcI) (.int jbM) 5 q5p jb3 jcU jcq jhR jeF hw) (cwV 1 hts gX9_readStep_X8_takesWord rfl rfl rfl (by decide +kernel) ⟨nbq rfl, nbq rfl⟩) ⟨qat qsO, va_recv (q := (RX8, TX8, 7)) hK hPc (ci := 8) (q0 := 0) rfl rfl, qbg qsO hPc hK hDc hNw hY ⟨hE, hZk1⟩ hS hFc⟩ rfl rfl hl.1 rfl (lv_room (nbq rfl)) (qaa qfg 2 rfl) ⟨nbq rfl, nbq rfl⟩) hS (fun q _ h => hFc q h) hFc (fun r4 u t H1 locs ht hvm hw hB hz1 hk1 hS => ?_)
  obtain ⟨x2, x3⟩ := u
  obtain ⟨hP1, hK1, hD1⟩ := hB
  rw [ht] at hP1
  obtain ⟨hP, hD⟩ := qad (wr := (qGN a0 jbU jgC jgh jho jju jkw jb7 jjF jaC jaN jaG jaF jbU cyI jdC jgC cyI jiX jgh cyI jiF jho cyI jjg jju cyI jlb)) (w1 := (qqX a1 jbF jb3 x2 x3 jcI jcU jbM jbF cyB jcq)) (wn := (qsi a0 jbU jgC jgh jho jju jkw jb7 jjF jaC jaN jaG jaF a1 jbF jb3 x2 x3 jcI jcU jbM jbF cyB jcq jbU cyI jdC jgC cyI jiX jgh cyI jiF jho cyI jjg jju cyI jlb)) hP hD [1, 2] [0, 3, 4, 5, 6, 7] [0, 6, 7, 1, 2, 3, 4, 5] hCc rfl (by decide +kernel) (by decide +kernel) (by decide +kernel) rfl hk1 hFc hP1 hD1
  generalize H1 = H at hP hS ⊢
  refine lv_if_eq (tgt := 15) hx hb (qaa qfg 3 rfl) (by decide) (fun c5 => ?_) (fun c5 => ?_)
  · have hw := hw.1 c5
    refine lv_aload_n hx hb (qaa qfg 8 rfl) rfl (lv_at hl 1 rfl) ?_
    obtain ⟨k6, hRk6, hZk6⟩ := qbbH hE
    refine va_ldcS hx hb hown hRk6 (qaa qfg 9 rfl) ?_
    obtain ⟨hCc, hPc, hDc, hFc⟩ := qac (ws' := (qqX a1 jbF jb3 x2 x3 jcI jcU jbM jbF cyB jcq)) hP hD hS hA [1, 2] (by decide +kernel) rfl
    refine va_calli (va_runV (As := [.ref k6]) (rest := []) ⟨hx, hb, hml, hown, hts⟩ (qb9 l dC dI cyB cyI cyJ cyP a1 k6 jbF H.size (jcI) (.int jbM) 4 q40 jb3 jcU jcq x2 x3 hw) (cwV 1 hts gX9_readStep_X8_takesWord rfl rfl rfl (by decide +kernel) ⟨nbq rfl, nbq rfl⟩) ⟨qat qsO, va_recv (q := (RX8, TX8, 7)) hK hPc (ci := 8) (q0 := 0) rfl rfl, qbg qsO hPc hK hDc hNw hY ⟨hE, hZk6⟩ hS hFc⟩ rfl rfl hl.1 rfl (lv_room (nbq rfl)) (qaa qfg 10 rfl) ⟨nbq rfl, nbq rfl⟩) hS (fun q _ h => hFc q h) hFc (fun r9 u t H1 locs ht hvm hw hB hz1 hk1 hS => ?_)
    obtain ⟨x7, x8⟩ := u
    obtain ⟨hP1, hK1, hD1⟩ := hB
    rw [ht] at hP1
    obtain ⟨hP, hD⟩ := qad (wr := (qGN a0 jbU jgC jgh jho jju jkw jb7 jjF jaC jaN jaG jaF jbU cyI jdC jgC cyI jiX jgh cyI jiF jho cyI jjg jju cyI jlb)) (w1 := (qqX a1 jbF jb3 x7 x8 jcI jcU jbM jbF cyB jcq)) (wn := (qsi a0 jbU jgC jgh jho jju jkw jb7 jjF jaC jaN jaG jaF a1 jbF jb3 x7 x8 jcI jcU jbM jbF cyB jcq jbU cyI jdC jgC cyI jiX jgh cyI jiF jho cyI jjg jju cyI jlb)) hP hD [1, 2] [0, 3, 4, 5, 6, 7] [0, 6, 7, 1, 2, 3, 4, 5] hCc rfl (by decide +kernel) (by decide +kernel) (by decide +kernel) rfl hk1 hFc hP1 hD1
    generalize H1 = H at hP hS ⊢
    refine lv_if_eq (tgt := 57) hx hb (qaa qfg 11 rfl) (by decide) (fun c10 => ?_) (fun c10 => ?_)
    · have hw := hw.1 c10
      refine lv_aload_n hx hb (qaa qd5 1 rfl) rfl (lv_at hl 1 rfl) ?_
      obtain ⟨k11, hRk11, hZk11⟩ := qbaN hE
      refine va_ldcS hx hb hown hRk11 (qaa qd5 2 rfl) ?_
      obtain ⟨hCc, hPc, hDc, hFc⟩ := qac (ws' := (qqX a1 jbF jb3 x7 x8 jcI jcU jbM jbF cyB jcq)) hP hD hS hA [1, 2] (by decide +kernel) rfl
      refine va_calli (va_runV (As := [.ref k11]) (rest := []) ⟨hx, hb, hml, hown, hts⟩ (qb9 l dC dI cyB cyI cyJ cyP a1 k11 jbF H.size (jcI) (.int jbM) 3 q4R jb3 jcU jcq x7 x8 hw) (cwV 1 hts gX9_readStep_X8_takesWord rfl rfl rfl (by decide +kernel) ⟨nbq rfl, nbq rfl⟩) ⟨qat qsO, va_recv (q := (RX8, TX8, 7)) hK hPc (ci := 8) (q0 := 0) rfl rfl, qbg qsO hPc hK hDc hNw hY ⟨hE, hZk11⟩ hS hFc⟩ rfl rfl hl.1 rfl (lv_room (nbq rfl)) (qaa qd5 3 rfl) ⟨nbq rfl, nbq rfl⟩) hS (fun q _ h => hFc q h) hFc (fun r14 u t H1 locs ht hvm hw hB hz1 hk1 hS => ?_)
      obtain ⟨x12, x13⟩ := u
      obtain ⟨hP1, hK1, hD1⟩ := hB
      rw [ht] at hP1
      obtain ⟨hP, hD⟩ := qad (wr := (qGN a0 jbU jgC jgh jho jju jkw jb7 jjF jaC jaN jaG jaF jbU cyI jdC jgC cyI jiX jgh cyI jiF jho cyI jjg jju cyI jlb)) (w1 := (qqX a1 jbF jb3 x12 x13 jcI jcU jbM jbF cyB jcq)) (wn := (qsi a0 jbU jgC jgh jho jju jkw jb7 jjF jaC jaN jaG jaF a1 jbF jb3 x12 x13 jcI jcU jbM jbF cyB jcq jbU cyI jdC jgC cyI jiX jgh cyI jiF jho cyI jjg jju cyI jlb)) hP hD [1, 2] [0, 3, 4, 5, 6, 7] [0, 6, 7, 1, 2, 3, 4, 5] hCc rfl (by decide +kernel) (by decide +kernel) (by decide +kernel) rfl hk1 hFc hP1 hD1
      generalize H1 = H at hP hS ⊢
      refine lv_if_eq (tgt := 99) hx hb (qaa qd5 4 rfl) (by decide) (fun c15 => ?_) (fun c15 => ?_)
      · have hw := hw.1 c15
        refine lv_aload_n hx hb (qaa qem 10 rfl) rfl (lv_at hl 1 rfl) ?_
        obtain ⟨k16, hRk16, hZk16⟩ := qbaQ hE
        refine va_ldcS hx hb hown hRk16 (qaa qem 11 rfl) ?_
        obtain ⟨hCc, hPc, hDc, hFc⟩ := qac (ws' := (qqX a1 jbF jb3 x12 x13 jcI jcU jbM jbF cyB jcq)) hP hD hS hA [1, 2] (by decide +kernel) rfl
        refine va_calli (va_runV (As := [.ref k16]) (rest := []) ⟨hx, hb, hml, hown, hts⟩ (qb9 l dC dI cyB cyI cyJ cyP a1 k16 jbF H.size (jcI) (.int jbM) 3 q47 jb3 jcU jcq x12 x13 hw) (cwV 1 hts gX9_readStep_X8_takesWord rfl rfl rfl (by decide +kernel) ⟨nbq rfl, nbq rfl⟩) ⟨qat qsO, va_recv (q := (RX8, TX8, 7)) hK hPc (ci := 8) (q0 := 0) rfl rfl, qbg qsO hPc hK hDc hNw hY ⟨hE, hZk16⟩ hS hFc⟩ rfl rfl hl.1 rfl (lv_room (nbq rfl)) (qaa qem 12 rfl) ⟨nbq rfl, nbq rfl⟩) hS (fun q _ h => hFc q h) hFc (fun r19 u t H1 locs ht hvm hw hB hz1 hk1 hS => ?_)
        obtain ⟨x17, x18⟩ := u
        obtain ⟨hP1, hK1, hD1⟩ := hB
        rw [ht] at hP1
        obtain ⟨hP, hD⟩ := qad (wr := (qGN a0 jbU jgC jgh jho jju jkw jb7 jjF jaC jaN jaG jaF jbU cyI jdC jgC cyI jiX jgh cyI jiF jho cyI jjg jju cyI jlb)) (w1 := (qqX a1 jbF jb3 x17 x18 jcI jcU jbM jbF cyB jcq)) (wn := (qsi a0 jbU jgC jgh jho jju jkw jb7 jjF jaC jaN jaG jaF a1 jbF jb3 x17 x18 jcI jcU jbM jbF cyB jcq jbU cyI jdC jgC cyI jiX jgh cyI jiF jho cyI jjg jju cyI jlb)) hP hD [1, 2] [0, 3, 4, 5, 6, 7] [0, 6, 7, 1, 2, 3, 4, 5] hCc rfl (by decide +kernel) (by decide +kernel) (by decide +kernel) rfl hk1 hFc hP1 hD1
        generalize H1 = H at hP hS ⊢
        refine lv_if_eq (tgt := 149) hx hb (qaa qem 13 rfl) (by decide) (fun c20 => ?_) (fun c20 => ?_)
        · have hw := hw.1 c20
          refine lv_aload_n hx hb (qaa qdB 8 rfl) rfl (lv_at hl 1 rfl) ?_
          obtain ⟨k21, hRk21, hZk21⟩ := qbbE hE
          refine va_ldcS hx hb hown hRk21 (qaa qdB 9 rfl) ?_
          obtain ⟨hCc, hPc, hDc, hFc⟩ := qac (ws' := (qqX a1 jbF jb3 x17 x18 jcI jcU jbM jbF cyB jcq)) hP hD hS hA [1, 2] (by decide +kernel) rfl
          refine va_calli (va_runV (As := [.ref k21]) (rest := []) ⟨hx, hb, hml, hown, hts⟩ (qb9 l dC dI cyB cyI cyJ cyP a1 k21 jbF H.size (jcI) (.int jbM) 3 q4U jb3 jcU jcq x17 x18 hw) (cwV 1 hts gX9_readStep_X8_takesWord rfl rfl rfl (by decide +kernel) ⟨nbq rfl, nbq rfl⟩) ⟨qat qsO, va_recv (q := (RX8, TX8, 7)) hK hPc (ci := 8) (q0 := 0) rfl rfl, qbg qsO hPc hK hDc hNw hY ⟨hE, hZk21⟩ hS hFc⟩ rfl rfl hl.1 rfl (lv_room (nbq rfl)) (qaa qdB 10 rfl) ⟨nbq rfl, nbq rfl⟩) hS (fun q _ h => hFc q h) hFc (fun r24 u t H1 locs ht hvm hw hB hz1 hk1 hS => ?_)
          obtain ⟨x22, x23⟩ := u
          obtain ⟨hP1, hK1, hD1⟩ := hB
          rw [ht] at hP1
          obtain ⟨hP, hD⟩ := qad (wr := (qGN a0 jbU jgC jgh jho jju jkw jb7 jjF jaC jaN jaG jaF jbU cyI jdC jgC cyI jiX jgh cyI jiF jho cyI jjg jju cyI jlb)) (w1 := (qqX a1 jbF jb3 x22 x23 jcI jcU jbM jbF cyB jcq)) (wn := (qsi a0 jbU jgC jgh jho jju jkw jb7 jjF jaC jaN jaG jaF a1 jbF jb3 x22 x23 jcI jcU jbM jbF cyB jcq jbU cyI jdC jgC cyI jiX jgh cyI jiF jho cyI jjg jju cyI jlb)) hP hD [1, 2] [0, 3, 4, 5, 6, 7] [0, 6, 7, 1, 2, 3, 4, 5] hCc rfl (by decide +kernel) (by decide +kernel) (by decide +kernel) rfl hk1 hFc hP1 hD1
          generalize H1 = H at hP hS ⊢
          refine lv_if_eq (tgt := 169) hx hb (qaa qdB 11 rfl) (by decide) (fun c25 => ?_) (fun c25 => ?_)
          · have hw := hw.1 c25
            refine lv_aload_n hx hb (qaa qoU 3 rfl) rfl (lv_at hl 1 rfl) ?_
            obtain ⟨hCc, hPc, hDc, hFc⟩ := qac (ws' := (qqX a1 jbF jb3 x22 x23 jcI jcU jbM jbF cyB jcq)) hP hD hS hA [1, 2] (by decide +kernel) rfl
            refine va_callv (va_runV (As := []) (rest := []) ⟨hx, hb, hml, hown, hts⟩ (qBx l dC dI cyB cyI cyJ cyP a1 jbF H.size (.int x23) (jcI) jb3 jcq x22 jcU jbM hw) (cwV 0 hts gX9_readStep_X8_blameSign rfl rfl rfl (by decide +kernel) ⟨nbq rfl, nbq rfl⟩) ⟨qab, va_recv (q := (RX8, TX8, 7)) hK hPc (ci := 8) (q0 := 0) rfl rfl, qae hPc hK hDc hNw⟩ rfl rfl hl.1 rfl (lv_room (nbq rfl)) (qaa qoU 4 rfl) ⟨nbq rfl, nbq rfl⟩) hS (fun q _ h => hFc q h) hFc (fun u t H1 locs ht hvm hw hB hz1 hk1 hS => ?_)
            obtain ⟨x26, x27, x28⟩ := u
            obtain ⟨hP1, hK1, hD1⟩ := hB
            rw [ht] at hP1
            obtain ⟨hP, hD⟩ := qad (wr := (qGN a0 jbU jgC jgh jho jju jkw jb7 jjF jaC jaN jaG jaF jbU cyI jdC jgC cyI jiX jgh cyI jiF jho cyI jjg jju cyI jlb)) (w1 := (qqX a1 jbF jb3 x26 x23 jcI x27 x28 jbF cyB jcq)) (wn := (qsi a0 jbU jgC jgh jho jju jkw jb7 jjF jaC jaN jaG jaF a1 jbF jb3 x26 x23 jcI x27 x28 jbF cyB jcq jbU cyI jdC jgC cyI jiX jgh cyI jiF jho cyI jjg jju cyI jlb)) hP hD [1, 2] [0, 3, 4, 5, 6, 7] [0, 6, 7, 1, 2, 3, 4, 5] hCc rfl (by decide +kernel) (by decide +kernel) (by decide +kernel) rfl hk1 hFc hP1 hD1
            generalize H1 = H at hP hS ⊢
            exact quR dC dI cyB cyI cyJ cyP a0 a1 jbF jbU jgC jgh jho jju jkw jaG jaF jcI jaC jaN jb3 jcq Q C0 _ _ _ x26 x23 x27 x28 jdC jiX jiF jjg jb7 jlb jjF hP hD hS (lv_sub hl [1] rfl) hw
          · have hw := hw.2 c25
            refine lv_aload_n hx hb (qaa qdB 12 rfl) rfl (lv_at hl 0 rfl) ?_
            refine lv_iconst (v := 3) hx hb (qaa qdB 13 rfl) (by decide) ?_
            refine lv_iconst (v := 0) hx hb (qaa qdB 14 rfl) (by decide) ?_
            refine lv_iconst (v := 0) hx hb (qaa qdB 15 rfl) (by decide) ?_
            refine lv_iconst (v := 0) hx hb (qaa qoU 0 rfl) (by decide) ?_
            obtain ⟨hCc, hPc, hDc, hFc⟩ := qac (ws' := (q3b a0 jbU jgC jgh jho jju jkw jb7 jjF jaC jaN jaG jaF jbU cyI jdC jgC cyI jiX jgh cyI jiF jho cyI jjg)) hP hD hS hA [0, 3, 4, 5, 6] (by decide +kernel) rfl
            refine va_callv (va_runV (As := [.int 3, .int 0, .int 0, .int 0]) (rest := []) ⟨hx, hb, hml, hown, hts⟩ (qVv l dC dI cyB cyI cyJ cyP a0 jbU jgC jgh jho H.size (.ref jju) (jkw) (.int jjF) (.int jaC) (.int jaN) (jaG) (jaF) jdC jiX jiF jjg jb7 3 0 0 0 hw) (cwV 4 hts gX9_readStep_X9_add rfl rfl rfl (by decide +kernel) ⟨nbq rfl, nbq rfl⟩) ⟨qab, va_recv (q := (RX9, TX9, 12)) hK hPc (ci := 9) (q0 := 0) rfl rfl, qae hPc hK hDc hNw⟩ rfl rfl hl.1 rfl (lv_room (nbq rfl)) (qaa qoU 1 rfl) ⟨nbq rfl, nbq rfl⟩) hS (fun q _ h => hFc q h) hFc (fun u t H1 locs ht hvm hw hB hz1 hk1 hS => ?_)
            obtain ⟨f29, f30, f31, f32, x33⟩ := u
            obtain ⟨hP1, hK1, hD1⟩ := hB
            rw [ht] at hP1
            obtain ⟨hP, hD⟩ := qad (wr := (qaQR a1 jbF jb3 x22 x23 jcI jcU jbM jbF cyB jcq jju cyI jlb)) (w1 := (q3b a0 jbU jgC jgh jho jju jkw x33 jjF jaC jaN jaG jaF jbU cyI f29 jgC cyI f30 jgh cyI f31 jho cyI f32)) (wn := (qsi a0 jbU jgC jgh jho jju jkw x33 jjF jaC jaN jaG jaF a1 jbF jb3 x22 x23 jcI jcU jbM jbF cyB jcq jbU cyI f29 jgC cyI f30 jgh cyI f31 jho cyI f32 jju cyI jlb)) hP hD [0, 3, 4, 5, 6] [1, 2, 7] [3, 0, 1, 4, 5, 6, 7, 2] hCc rfl (by decide +kernel) (by decide +kernel) (by decide +kernel) rfl hk1 hFc hP1 hD1
            generalize H1 = H at hP hS ⊢
            refine lv_goto (tgt := 173) hx hb (qaa qoU 2 rfl) (by decide) ?_
            exact quR dC dI cyB cyI cyJ cyP a0 a1 jbF jbU jgC jgh jho jju jkw jaG jaF jcI jaC jaN jb3 jcq Q C0 _ _ _ x22 x23 jcU jbM f29 f30 f31 f32 x33 jlb jjF hP hD hS (lv_sub hl [1] rfl) hw
        · have hw := hw.2 c20
          refine lv_aload_n hx hb (qaa qem 14 rfl) rfl (lv_at hl 1 rfl) ?_
          refine lv_iconst (v := 0) hx hb (qaa qem 15 rfl) (by decide) ?_
          refine lv_aload_n hx hb (qaa qc2 0 rfl) rfl (lv_at hl 0 rfl) ?_
          refine va_get (D := (dC, dI)) (ci := 9) (v := .int jaC) (C := RX9) (T := TX9) (N := 12) hx hb hts qsX hown hK hP 0 rfl rfl 8 (by decide) (hts _ quQ) (fun _ h9 => h9) rfl (qaa qc2 1 rfl) ?_
          refine lv_iconst (v := 1) hx hb (qaa qc2 2 rfl) (by decide) ?_
          refine lv_isub hx hb (qaa qc2 3 rfl) ?_
          obtain ⟨hCc, hPc, hDc, hFc⟩ := qac (ws' := (qqX a1 jbF jb3 x17 x18 jcI jcU jbM jbF cyB jcq)) hP hD hS hA [1, 2] (by decide +kernel) rfl
          refine va_calli (va_runV (As := [.int 0, .int (jaC - 1)]) (rest := []) ⟨hx, hb, hml, hown, hts⟩ (qia l dC dI cyB cyI cyJ cyP a1 jbF H.size (jcI) jb3 jcq x17 jcU jbM x18 0 (jaC - 1) hw) (cwV 2 hts gX9_readStep_X8_number rfl rfl rfl (by decide +kernel) ⟨nbq rfl, nbq rfl⟩) ⟨qab, va_recv (q := (RX8, TX8, 7)) hK hPc (ci := 8) (q0 := 0) rfl rfl, qae hPc hK hDc hNw⟩ rfl rfl hl.1 rfl (lv_room (nbq rfl)) (qaa qc2 4 rfl) ⟨nbq rfl, nbq rfl⟩) hS (fun q _ h => hFc q h) hFc (fun r38 u t H1 locs ht hvm hw hB hz1 hk1 hS => ?_)
          obtain ⟨x34, x35, x36, x37⟩ := u
          obtain ⟨hP1, hK1, hD1⟩ := hB
          rw [ht] at hP1
          obtain ⟨hP, hD⟩ := qad (wr := (qGN a0 jbU jgC jgh jho jju jkw jb7 jjF jaC jaN jaG jaF jbU cyI jdC jgC cyI jiX jgh cyI jiF jho cyI jjg jju cyI jlb)) (w1 := (qqX a1 jbF jb3 x34 x37 jcI x35 x36 jbF cyB jcq)) (wn := (qsi a0 jbU jgC jgh jho jju jkw jb7 jjF jaC jaN jaG jaF a1 jbF jb3 x34 x37 jcI x35 x36 jbF cyB jcq jbU cyI jdC jgC cyI jiX jgh cyI jiF jho cyI jjg jju cyI jlb)) hP hD [1, 2] [0, 3, 4, 5, 6, 7] [0, 6, 7, 1, 2, 3, 4, 5] hCc rfl (by decide +kernel) (by decide +kernel) (by decide +kernel) rfl hk1 hFc hP1 hD1
          generalize H1 = H at hP hS ⊢
          refine lv_istore_n (lv' := [(2, .int r38), (0, .ref a0), (1, .ref a1)]) hx hb (qaa qc2 5 rfl) rfl hl (by decide) rfl (fun ls hl => ?_)
          refine lv_aload_n hx hb (qaa qc2 6 rfl) rfl (lv_at hl 2 rfl) ?_
          refine lv_iconst (v := 0) hx hb (qaa qc2 7 rfl) (by decide) ?_
          refine lv_aload_n hx hb (qaa qc2 8 rfl) rfl (lv_at hl 1 rfl) ?_
          refine va_get (D := (dC, dI)) (ci := 9) (v := .int jaC) (C := RX9) (T := TX9) (N := 12) hx hb hts qsX hown hK hP 0 rfl rfl 8 (by decide) (hts _ quQ) (fun _ h9 => h9) rfl (qaa qc2 9 rfl) ?_
          refine lv_iconst (v := 1) hx hb (qaa qc2 10 rfl) (by decide) ?_
          refine lv_isub hx hb (qaa qc2 11 rfl) ?_
          obtain ⟨hCc, hPc, hDc, hFc⟩ := qac (ws' := (qqX a1 jbF jb3 x34 x37 jcI x35 x36 jbF cyB jcq)) hP hD hS hA [1, 2] (by decide +kernel) rfl
          refine va_calli (va_runV (As := [.int 0, .int (jaC - 1)]) (rest := []) ⟨hx, hb, hml, hown, hts⟩ (qia l dC dI cyB cyI cyJ cyP a1 jbF H.size (jcI) jb3 jcq x34 x35 x36 x37 0 (jaC - 1) hw) (cwV 2 hts gX9_readStep_X8_number rfl rfl rfl (by decide +kernel) ⟨nbq rfl, nbq rfl⟩) ⟨qab, va_recv (q := (RX8, TX8, 7)) hK hPc (ci := 8) (q0 := 0) rfl rfl, qae hPc hK hDc hNw⟩ rfl rfl hl.1 rfl (lv_room (nbq rfl)) (qaa qc2 12 rfl) ⟨nbq rfl, nbq rfl⟩) hS (fun q _ h => hFc q h) hFc (fun r43 u t H1 locs ht hvm hw hB hz1 hk1 hS => ?_)
          obtain ⟨x39, x40, x41, x42⟩ := u
          obtain ⟨hP1, hK1, hD1⟩ := hB
          rw [ht] at hP1
          obtain ⟨hP, hD⟩ := qad (wr := (qGN a0 jbU jgC jgh jho jju jkw jb7 jjF jaC jaN jaG jaF jbU cyI jdC jgC cyI jiX jgh cyI jiF jho cyI jjg jju cyI jlb)) (w1 := (qqX a1 jbF jb3 x39 x42 jcI x40 x41 jbF cyB jcq)) (wn := (qsi a0 jbU jgC jgh jho jju jkw jb7 jjF jaC jaN jaG jaF a1 jbF jb3 x39 x42 jcI x40 x41 jbF cyB jcq jbU cyI jdC jgC cyI jiX jgh cyI jiF jho cyI jjg jju cyI jlb)) hP hD [1, 2] [0, 3, 4, 5, 6, 7] [0, 6, 7, 1, 2, 3, 4, 5] hCc rfl (by decide +kernel) (by decide +kernel) (by decide +kernel) rfl hk1 hFc hP1 hD1
          generalize H1 = H at hP hS ⊢
          refine lv_istore_n (lv' := [(3, .int r43), (2, .int r38), (0, .ref a0), (1, .ref a1)]) hx hb (qaa qc2 13 rfl) rfl hl (by decide) rfl (fun ls hl => ?_)
          refine lv_aload_n hx hb (qaa qc2 14 rfl) rfl (lv_at hl 2 rfl) ?_
          refine lv_iconst (v := 2) hx hb (qaa qc2 15 rfl) (by decide) ?_
          refine lv_iload_n hx hb (qaa qdB 0 rfl) rfl (lv_at hl 1 rfl) ?_
          refine lv_iload_n hx hb (qaa qdB 1 rfl) rfl (lv_at hl 0 rfl) ?_
          refine lv_aload_n hx hb (qaa qdB 2 rfl) rfl (lv_at hl 3 rfl) ?_
          refine lv_iconst (v := 1) hx hb (qaa qdB 3 rfl) (by decide) ?_
          refine lv_bipush (v := 99) hx hb (qaa qdB 4 rfl) (by decide) ?_
          obtain ⟨hCc, hPc, hDc, hFc⟩ := qac (ws' := (qqX a1 jbF jb3 x39 x42 jcI x40 x41 jbF cyB jcq)) hP hD hS hA [1, 2] (by decide +kernel) rfl
          refine va_calli (va_runV (As := [.int 1, .int 99]) (rest := [.int r43, .int r38, .int 2, .ref a0]) ⟨hx, hb, hml, hown, hts⟩ (qia l dC dI cyB cyI cyJ cyP a1 jbF H.size (jcI) jb3 jcq x39 x40 x41 x42 1 99 hw) (cwV 2 hts gX9_readStep_X8_number rfl rfl rfl (by decide +kernel) ⟨nbq rfl, nbq rfl⟩) ⟨qab, va_recv (q := (RX8, TX8, 7)) hK hPc (ci := 8) (q0 := 0) rfl rfl, qae hPc hK hDc hNw⟩ rfl rfl hl.1 rfl (lv_room (nbq rfl)) (qaa qdB 5 rfl) ⟨nbq rfl, nbq rfl⟩) hS (fun q _ h => hFc q h) hFc (fun r48 u t H1 locs ht hvm hw hB hz1 hk1 hS => ?_)
          obtain ⟨x44, x45, x46, x47⟩ := u
          obtain ⟨hP1, hK1, hD1⟩ := hB
          rw [ht] at hP1
          obtain ⟨hP, hD⟩ := qad (wr := (qGN a0 jbU jgC jgh jho jju jkw jb7 jjF jaC jaN jaG jaF jbU cyI jdC jgC cyI jiX jgh cyI jiF jho cyI jjg jju cyI jlb)) (w1 := (qqX a1 jbF jb3 x44 x47 jcI x45 x46 jbF cyB jcq)) (wn := (qsi a0 jbU jgC jgh jho jju jkw jb7 jjF jaC jaN jaG jaF a1 jbF jb3 x44 x47 jcI x45 x46 jbF cyB jcq jbU cyI jdC jgC cyI jiX jgh cyI jiF jho cyI jjg jju cyI jlb)) hP hD [1, 2] [0, 3, 4, 5, 6, 7] [0, 6, 7, 1, 2, 3, 4, 5] hCc rfl (by decide +kernel) (by decide +kernel) (by decide +kernel) rfl hk1 hFc hP1 hD1
          generalize H1 = H at hP hS ⊢
          obtain ⟨hCc, hPc, hDc, hFc⟩ := qac (ws' := (q3b a0 jbU jgC jgh jho jju jkw jb7 jjF jaC jaN jaG jaF jbU cyI jdC jgC cyI jiX jgh cyI jiF jho cyI jjg)) hP hD hS hA [0, 3, 4, 5, 6] (by decide +kernel) rfl
          refine va_callv (va_runV (As := [.int 2, .int r38, .int r43, .int r48]) (rest := []) ⟨hx, hb, hml, hown, hts⟩ (qVv l dC dI cyB cyI cyJ cyP a0 jbU jgC jgh jho H.size (.ref jju) (jkw) (.int jjF) (.int jaC) (.int jaN) (jaG) (jaF) jdC jiX jiF jjg jb7 2 r38 r43 r48 hw) (cwV 4 hts gX9_readStep_X9_add rfl rfl rfl (by decide +kernel) ⟨nbq rfl, nbq rfl⟩) ⟨qab, va_recv (q := (RX9, TX9, 12)) hK hPc (ci := 9) (q0 := 0) rfl rfl, qae hPc hK hDc hNw⟩ rfl rfl hl.1 rfl (lv_room (nbq rfl)) (qaa qdB 6 rfl) ⟨nbq rfl, nbq rfl⟩) hS (fun q _ h => hFc q h) hFc (fun u t H1 locs ht hvm hw hB hz1 hk1 hS => ?_)
          obtain ⟨f49, f50, f51, f52, x53⟩ := u
          obtain ⟨hP1, hK1, hD1⟩ := hB
          rw [ht] at hP1
          obtain ⟨hP, hD⟩ := qad (wr := (qaQR a1 jbF jb3 x44 x47 jcI x45 x46 jbF cyB jcq jju cyI jlb)) (w1 := (q3b a0 jbU jgC jgh jho jju jkw x53 jjF jaC jaN jaG jaF jbU cyI f49 jgC cyI f50 jgh cyI f51 jho cyI f52)) (wn := (qsi a0 jbU jgC jgh jho jju jkw x53 jjF jaC jaN jaG jaF a1 jbF jb3 x44 x47 jcI x45 x46 jbF cyB jcq jbU cyI f49 jgC cyI f50 jgh cyI f51 jho cyI f52 jju cyI jlb)) hP hD [0, 3, 4, 5, 6] [1, 2, 7] [3, 0, 1, 4, 5, 6, 7, 2] hCc rfl (by decide +kernel) (by decide +kernel) (by decide +kernel) rfl hk1 hFc hP1 hD1
          generalize H1 = H at hP hS ⊢
          refine lv_goto (tgt := 173) hx hb (qaa qdB 7 rfl) (by decide) ?_
          exact quR dC dI cyB cyI cyJ cyP a0 a1 jbF jbU jgC jgh jho jju jkw jaG jaF jcI jaC jaN jb3 jcq Q C0 _ _ _ x44 x47 x45 x46 f49 f50 f51 f52 x53 jlb jjF hP hD hS (lv_sub hl [3] rfl) hw
      · have hw := hw.2 c15
        refine lv_aload_n hx hb (qaa qd5 5 rfl) rfl (lv_at hl 1 rfl) ?_
        refine lv_iconst (v := 0) hx hb (qaa qd5 6 rfl) (by decide) ?_
        refine lv_aload_n hx hb (qaa qd5 7 rfl) rfl (lv_at hl 0 rfl) ?_
        refine va_get (D := (dC, dI)) (ci := 9) (v := .int jaC) (C := RX9) (T := TX9) (N := 12) hx hb hts qsX hown hK hP 0 rfl rfl 8 (by decide) (hts _ quQ) (fun _ h9 => h9) rfl (qaa qd5 8 rfl) ?_
        refine lv_iconst (v := 1) hx hb (qaa qd5 9 rfl) (by decide) ?_
        refine lv_isub hx hb (qaa qd5 10 rfl) ?_
        obtain ⟨hCc, hPc, hDc, hFc⟩ := qac (ws' := (qqX a1 jbF jb3 x12 x13 jcI jcU jbM jbF cyB jcq)) hP hD hS hA [1, 2] (by decide +kernel) rfl
        refine va_calli (va_runV (As := [.int 0, .int (jaC - 1)]) (rest := []) ⟨hx, hb, hml, hown, hts⟩ (qia l dC dI cyB cyI cyJ cyP a1 jbF H.size (jcI) jb3 jcq x12 jcU jbM x13 0 (jaC - 1) hw) (cwV 2 hts gX9_readStep_X8_number rfl rfl rfl (by decide +kernel) ⟨nbq rfl, nbq rfl⟩) ⟨qab, va_recv (q := (RX8, TX8, 7)) hK hPc (ci := 8) (q0 := 0) rfl rfl, qae hPc hK hDc hNw⟩ rfl rfl hl.1 rfl (lv_room (nbq rfl)) (qaa qd5 11 rfl) ⟨nbq rfl, nbq rfl⟩) hS (fun q _ h => hFc q h) hFc (fun r58 u t H1 locs ht hvm hw hB hz1 hk1 hS => ?_)
        obtain ⟨x54, x55, x56, x57⟩ := u
        obtain ⟨hP1, hK1, hD1⟩ := hB
        rw [ht] at hP1
        obtain ⟨hP, hD⟩ := qad (wr := (qGN a0 jbU jgC jgh jho jju jkw jb7 jjF jaC jaN jaG jaF jbU cyI jdC jgC cyI jiX jgh cyI jiF jho cyI jjg jju cyI jlb)) (w1 := (qqX a1 jbF jb3 x54 x57 jcI x55 x56 jbF cyB jcq)) (wn := (qsi a0 jbU jgC jgh jho jju jkw jb7 jjF jaC jaN jaG jaF a1 jbF jb3 x54 x57 jcI x55 x56 jbF cyB jcq jbU cyI jdC jgC cyI jiX jgh cyI jiF jho cyI jjg jju cyI jlb)) hP hD [1, 2] [0, 3, 4, 5, 6, 7] [0, 6, 7, 1, 2, 3, 4, 5] hCc rfl (by decide +kernel) (by decide +kernel) (by decide +kernel) rfl hk1 hFc hP1 hD1
        generalize H1 = H at hP hS ⊢
        refine lv_istore_n (lv' := [(2, .int r58), (0, .ref a0), (1, .ref a1)]) hx hb (qaa qd5 12 rfl) rfl hl (by decide) rfl (fun ls hl => ?_)
        refine lv_aload_n hx hb (qaa qd5 13 rfl) rfl (lv_at hl 1 rfl) ?_
        refine lv_iconst (v := 1) hx hb (qaa qd5 14 rfl) (by decide) ?_
        refine lv_iload_n hx hb (qaa qd5 15 rfl) rfl (lv_at hl 0 rfl) ?_
        refine lv_aload_n hx hb (qaa qem 0 rfl) rfl (lv_at hl 2 rfl) ?_
        refine lv_iconst (v := 0) hx hb (qaa qem 1 rfl) (by decide) ?_
        refine lv_aload_n hx hb (qaa qem 2 rfl) rfl (lv_at hl 1 rfl) ?_
        refine va_get (D := (dC, dI)) (ci := 9) (v := .int jaC) (C := RX9) (T := TX9) (N := 12) hx hb hts qsX hown hK hP 0 rfl rfl 8 (by decide) (hts _ quQ) (fun _ h9 => h9) rfl (qaa qem 3 rfl) ?_
        refine lv_iconst (v := 1) hx hb (qaa qem 4 rfl) (by decide) ?_
        refine lv_isub hx hb (qaa qem 5 rfl) ?_
        obtain ⟨hCc, hPc, hDc, hFc⟩ := qac (ws' := (qqX a1 jbF jb3 x54 x57 jcI x55 x56 jbF cyB jcq)) hP hD hS hA [1, 2] (by decide +kernel) rfl
        refine va_calli (va_runV (As := [.int 0, .int (jaC - 1)]) (rest := [.int r58, .int 1, .ref a0]) ⟨hx, hb, hml, hown, hts⟩ (qia l dC dI cyB cyI cyJ cyP a1 jbF H.size (jcI) jb3 jcq x54 x55 x56 x57 0 (jaC - 1) hw) (cwV 2 hts gX9_readStep_X8_number rfl rfl rfl (by decide +kernel) ⟨nbq rfl, nbq rfl⟩) ⟨qab, va_recv (q := (RX8, TX8, 7)) hK hPc (ci := 8) (q0 := 0) rfl rfl, qae hPc hK hDc hNw⟩ rfl rfl hl.1 rfl (lv_room (nbq rfl)) (qaa qem 6 rfl) ⟨nbq rfl, nbq rfl⟩) hS (fun q _ h => hFc q h) hFc (fun r63 u t H1 locs ht hvm hw hB hz1 hk1 hS => ?_)
        obtain ⟨x59, x60, x61, x62⟩ := u
        obtain ⟨hP1, hK1, hD1⟩ := hB
        rw [ht] at hP1
        obtain ⟨hP, hD⟩ := qad (wr := (qGN a0 jbU jgC jgh jho jju jkw jb7 jjF jaC jaN jaG jaF jbU cyI jdC jgC cyI jiX jgh cyI jiF jho cyI jjg jju cyI jlb)) (w1 := (qqX a1 jbF jb3 x59 x62 jcI x60 x61 jbF cyB jcq)) (wn := (qsi a0 jbU jgC jgh jho jju jkw jb7 jjF jaC jaN jaG jaF a1 jbF jb3 x59 x62 jcI x60 x61 jbF cyB jcq jbU cyI jdC jgC cyI jiX jgh cyI jiF jho cyI jjg jju cyI jlb)) hP hD [1, 2] [0, 3, 4, 5, 6, 7] [0, 6, 7, 1, 2, 3, 4, 5] hCc rfl (by decide +kernel) (by decide +kernel) (by decide +kernel) rfl hk1 hFc hP1 hD1
        generalize H1 = H at hP hS ⊢
        refine lv_iconst (v := 0) hx hb (qaa qem 7 rfl) (by decide) ?_
        obtain ⟨hCc, hPc, hDc, hFc⟩ := qac (ws' := (q3b a0 jbU jgC jgh jho jju jkw jb7 jjF jaC jaN jaG jaF jbU cyI jdC jgC cyI jiX jgh cyI jiF jho cyI jjg)) hP hD hS hA [0, 3, 4, 5, 6] (by decide +kernel) rfl
        refine va_callv (va_runV (As := [.int 1, .int r58, .int r63, .int 0]) (rest := []) ⟨hx, hb, hml, hown, hts⟩ (qVv l dC dI cyB cyI cyJ cyP a0 jbU jgC jgh jho H.size (.ref jju) (jkw) (.int jjF) (.int jaC) (.int jaN) (jaG) (jaF) jdC jiX jiF jjg jb7 1 r58 r63 0 hw) (cwV 4 hts gX9_readStep_X9_add rfl rfl rfl (by decide +kernel) ⟨nbq rfl, nbq rfl⟩) ⟨qab, va_recv (q := (RX9, TX9, 12)) hK hPc (ci := 9) (q0 := 0) rfl rfl, qae hPc hK hDc hNw⟩ rfl rfl hl.1 rfl (lv_room (nbq rfl)) (qaa qem 8 rfl) ⟨nbq rfl, nbq rfl⟩) hS (fun q _ h => hFc q h) hFc (fun u t H1 locs ht hvm hw hB hz1 hk1 hS => ?_)
        obtain ⟨f64, f65, f66, f67, x68⟩ := u
        obtain ⟨hP1, hK1, hD1⟩ := hB
        rw [ht] at hP1
        obtain ⟨hP, hD⟩ := qad (wr := (qaQR a1 jbF jb3 x59 x62 jcI x60 x61 jbF cyB jcq jju cyI jlb)) (w1 := (q3b a0 jbU jgC jgh jho jju jkw x68 jjF jaC jaN jaG jaF jbU cyI f64 jgC cyI f65 jgh cyI f66 jho cyI f67)) (wn := (qsi a0 jbU jgC jgh jho jju jkw x68 jjF jaC jaN jaG jaF a1 jbF jb3 x59 x62 jcI x60 x61 jbF cyB jcq jbU cyI f64 jgC cyI f65 jgh cyI f66 jho cyI f67 jju cyI jlb)) hP hD [0, 3, 4, 5, 6] [1, 2, 7] [3, 0, 1, 4, 5, 6, 7, 2] hCc rfl (by decide +kernel) (by decide +kernel) (by decide +kernel) rfl hk1 hFc hP1 hD1
        generalize H1 = H at hP hS ⊢
        refine lv_goto (tgt := 173) hx hb (qaa qem 9 rfl) (by decide) ?_
        exact quR dC dI cyB cyI cyJ cyP a0 a1 jbF jbU jgC jgh jho jju jkw jaG jaF jcI jaC jaN jb3 jcq Q C0 _ _ _ x59 x62 x60 x61 f64 f65 f66 f67 x68 jlb jjF hP hD hS (lv_sub hl [2] rfl) hw
    · have hw := hw.2 c10
      refine lv_aload_n hx hb (qaa qfg 12 rfl) rfl (lv_at hl 1 rfl) ?_
      refine lv_iconst (v := 0) hx hb (qaa qfg 13 rfl) (by decide) ?_
      refine lv_aload_n hx hb (qaa qfg 14 rfl) rfl (lv_at hl 0 rfl) ?_
      refine va_get (D := (dC, dI)) (ci := 9) (v := .int jaC) (C := RX9) (T := TX9) (N := 12) hx hb hts qsX hown hK hP 0 rfl rfl 8 (by decide) (hts _ quQ) (fun _ h9 => h9) rfl (qaa qfg 15 rfl) ?_
      refine lv_iconst (v := 1) hx hb (qaa qex 0 rfl) (by decide) ?_
      refine lv_isub hx hb (qaa qex 1 rfl) ?_
      obtain ⟨hCc, hPc, hDc, hFc⟩ := qac (ws' := (qqX a1 jbF jb3 x7 x8 jcI jcU jbM jbF cyB jcq)) hP hD hS hA [1, 2] (by decide +kernel) rfl
      refine va_calli (va_runV (As := [.int 0, .int (jaC - 1)]) (rest := []) ⟨hx, hb, hml, hown, hts⟩ (qia l dC dI cyB cyI cyJ cyP a1 jbF H.size (jcI) jb3 jcq x7 jcU jbM x8 0 (jaC - 1) hw) (cwV 2 hts gX9_readStep_X8_number rfl rfl rfl (by decide +kernel) ⟨nbq rfl, nbq rfl⟩) ⟨qab, va_recv (q := (RX8, TX8, 7)) hK hPc (ci := 8) (q0 := 0) rfl rfl, qae hPc hK hDc hNw⟩ rfl rfl hl.1 rfl (lv_room (nbq rfl)) (qaa qex 2 rfl) ⟨nbq rfl, nbq rfl⟩) hS (fun q _ h => hFc q h) hFc (fun r73 u t H1 locs ht hvm hw hB hz1 hk1 hS => ?_)
      obtain ⟨x69, x70, x71, x72⟩ := u
      obtain ⟨hP1, hK1, hD1⟩ := hB
      rw [ht] at hP1
      obtain ⟨hP, hD⟩ := qad (wr := (qGN a0 jbU jgC jgh jho jju jkw jb7 jjF jaC jaN jaG jaF jbU cyI jdC jgC cyI jiX jgh cyI jiF jho cyI jjg jju cyI jlb)) (w1 := (qqX a1 jbF jb3 x69 x72 jcI x70 x71 jbF cyB jcq)) (wn := (qsi a0 jbU jgC jgh jho jju jkw jb7 jjF jaC jaN jaG jaF a1 jbF jb3 x69 x72 jcI x70 x71 jbF cyB jcq jbU cyI jdC jgC cyI jiX jgh cyI jiF jho cyI jjg jju cyI jlb)) hP hD [1, 2] [0, 3, 4, 5, 6, 7] [0, 6, 7, 1, 2, 3, 4, 5] hCc rfl (by decide +kernel) (by decide +kernel) (by decide +kernel) rfl hk1 hFc hP1 hD1
      generalize H1 = H at hP hS ⊢
      refine lv_istore_n (lv' := [(2, .int r73), (0, .ref a0), (1, .ref a1)]) hx hb (qaa qex 3 rfl) rfl hl (by decide) rfl (fun ls hl => ?_)
      refine lv_aload_n hx hb (qaa qex 4 rfl) rfl (lv_at hl 1 rfl) ?_
      refine lv_iconst (v := 0) hx hb (qaa qex 5 rfl) (by decide) ?_
      refine lv_iload_n hx hb (qaa qex 6 rfl) rfl (lv_at hl 0 rfl) ?_
      refine lv_aload_n hx hb (qaa qex 7 rfl) rfl (lv_at hl 2 rfl) ?_
      refine lv_iconst (v := 0) hx hb (qaa qex 8 rfl) (by decide) ?_
      refine lv_aload_n hx hb (qaa qex 9 rfl) rfl (lv_at hl 1 rfl) ?_
      refine va_get (D := (dC, dI)) (ci := 9) (v := .int jaN) (C := RX9) (T := TX9) (N := 12) hx hb hts qsX hown hK hP 0 rfl rfl 9 (by decide) (hts _ q6g) (fun _ h9 => h9) rfl (qaa qex 10 rfl) ?_
      refine lv_iconst (v := 1) hx hb (qaa qex 11 rfl) (by decide) ?_
      refine lv_isub hx hb (qaa qex 12 rfl) ?_
      obtain ⟨hCc, hPc, hDc, hFc⟩ := qac (ws' := (qqX a1 jbF jb3 x69 x72 jcI x70 x71 jbF cyB jcq)) hP hD hS hA [1, 2] (by decide +kernel) rfl
      refine va_calli (va_runV (As := [.int 0, .int (jaN - 1)]) (rest := [.int r73, .int 0, .ref a0]) ⟨hx, hb, hml, hown, hts⟩ (qia l dC dI cyB cyI cyJ cyP a1 jbF H.size (jcI) jb3 jcq x69 x70 x71 x72 0 (jaN - 1) hw) (cwV 2 hts gX9_readStep_X8_number rfl rfl rfl (by decide +kernel) ⟨nbq rfl, nbq rfl⟩) ⟨qab, va_recv (q := (RX8, TX8, 7)) hK hPc (ci := 8) (q0 := 0) rfl rfl, qae hPc hK hDc hNw⟩ rfl rfl hl.1 rfl (lv_room (nbq rfl)) (qaa qex 13 rfl) ⟨nbq rfl, nbq rfl⟩) hS (fun q _ h => hFc q h) hFc (fun r78 u t H1 locs ht hvm hw hB hz1 hk1 hS => ?_)
      obtain ⟨x74, x75, x76, x77⟩ := u
      obtain ⟨hP1, hK1, hD1⟩ := hB
      rw [ht] at hP1
      obtain ⟨hP, hD⟩ := qad (wr := (qGN a0 jbU jgC jgh jho jju jkw jb7 jjF jaC jaN jaG jaF jbU cyI jdC jgC cyI jiX jgh cyI jiF jho cyI jjg jju cyI jlb)) (w1 := (qqX a1 jbF jb3 x74 x77 jcI x75 x76 jbF cyB jcq)) (wn := (qsi a0 jbU jgC jgh jho jju jkw jb7 jjF jaC jaN jaG jaF a1 jbF jb3 x74 x77 jcI x75 x76 jbF cyB jcq jbU cyI jdC jgC cyI jiX jgh cyI jiF jho cyI jjg jju cyI jlb)) hP hD [1, 2] [0, 3, 4, 5, 6, 7] [0, 6, 7, 1, 2, 3, 4, 5] hCc rfl (by decide +kernel) (by decide +kernel) (by decide +kernel) rfl hk1 hFc hP1 hD1
      generalize H1 = H at hP hS ⊢
      refine lv_iconst (v := 0) hx hb (qaa qex 14 rfl) (by decide) ?_
      obtain ⟨hCc, hPc, hDc, hFc⟩ := qac (ws' := (q3b a0 jbU jgC jgh jho jju jkw jb7 jjF jaC jaN jaG jaF jbU cyI jdC jgC cyI jiX jgh cyI jiF jho cyI jjg)) hP hD hS hA [0, 3, 4, 5, 6] (by decide +kernel) rfl
      refine va_callv (va_runV (As := [.int 0, .int r73, .int r78, .int 0]) (rest := []) ⟨hx, hb, hml, hown, hts⟩ (qVv l dC dI cyB cyI cyJ cyP a0 jbU jgC jgh jho H.size (.ref jju) (jkw) (.int jjF) (.int jaC) (.int jaN) (jaG) (jaF) jdC jiX jiF jjg jb7 0 r73 r78 0 hw) (cwV 4 hts gX9_readStep_X9_add rfl rfl rfl (by decide +kernel) ⟨nbq rfl, nbq rfl⟩) ⟨qab, va_recv (q := (RX9, TX9, 12)) hK hPc (ci := 9) (q0 := 0) rfl rfl, qae hPc hK hDc hNw⟩ rfl rfl hl.1 rfl (lv_room (nbq rfl)) (qaa qex 15 rfl) ⟨nbq rfl, nbq rfl⟩) hS (fun q _ h => hFc q h) hFc (fun u t H1 locs ht hvm hw hB hz1 hk1 hS => ?_)
      obtain ⟨f79, f80, f81, f82, x83⟩ := u
      obtain ⟨hP1, hK1, hD1⟩ := hB
      rw [ht] at hP1
      obtain ⟨hP, hD⟩ := qad (wr := (qaQR a1 jbF jb3 x74 x77 jcI x75 x76 jbF cyB jcq jju cyI jlb)) (w1 := (q3b a0 jbU jgC jgh jho jju jkw x83 jjF jaC jaN jaG jaF jbU cyI f79 jgC cyI f80 jgh cyI f81 jho cyI f82)) (wn := (qsi a0 jbU jgC jgh jho jju jkw x83 jjF jaC jaN jaG jaF a1 jbF jb3 x74 x77 jcI x75 x76 jbF cyB jcq jbU cyI f79 jgC cyI f80 jgh cyI f81 jho cyI f82 jju cyI jlb)) hP hD [0, 3, 4, 5, 6] [1, 2, 7] [3, 0, 1, 4, 5, 6, 7, 2] hCc rfl (by decide +kernel) (by decide +kernel) (by decide +kernel) rfl hk1 hFc hP1 hD1
      generalize H1 = H at hP hS ⊢
      refine lv_goto (tgt := 173) hx hb (qaa qd5 0 rfl) (by decide) ?_
      exact quR dC dI cyB cyI cyJ cyP a0 a1 jbF jbU jgC jgh jho jju jkw jaG jaF jcI jaC jaN jb3 jcq Q C0 _ _ _ x74 x77 x75 x76 f79 f80 f81 f82 x83 jlb jjF hP hD hS (lv_sub hl [2] rfl) hw
  · have hw := hw.2 c5
    refine lv_aload_n hx hb (qaa qfg 4 rfl) rfl (lv_at hl 0 rfl) ?_
    refine lv_aload_n hx hb (qaa qfg 5 rfl) rfl (lv_at hl 1 rfl) ?_
    obtain ⟨hCc, hPc, hDc, hFc⟩ := qac (ws' := (qa5z a0 jbU jgC jgh jho jju jkw jb7 jjF jaC jaN jaG jaF a1 jbF jb3 x2 x3 jcI jcU jbM jbF cyB jcq jju cyI jlb jbU cyI jdC jgC cyI jiX jgh cyI jiF jho cyI jjg)) hP hD hS hA [0, 1, 2, 7, 3, 4, 5, 6] (by decide +kernel) rfl
    refine va_callv (va_runV (As := [.ref a1]) (rest := []) ⟨hx, hb, hml, hown, hts⟩ (qaIb l dC dI cyB cyI cyJ cyP a0 a1 jbF jju jbU jgC jgh jho H.size (jkw) (.int jaC) (.int jaN) (jaG) (jaF) (jcI) jb3 jcq x2 jcU jbM x3 jlb jjF jdC jiX jiF jjg jb7 hw) (cwV 1 hts gX9_readStep_X9_openLoop rfl rfl rfl (by decide +kernel) ⟨nbq rfl, nbq rfl⟩) ⟨qab, va_recv (q := (RX9, TX9, 12)) hK hPc (ci := 9) (q0 := 0) rfl rfl, qae hPc hK hDc hNw⟩ rfl rfl hl.1 rfl (lv_room (nbq rfl)) (qaa qfg 6 rfl) ⟨nbq rfl, nbq rfl⟩) hS (fun q _ h => hFc q h) hFc (fun u t H1 locs ht hvm hw hB hz1 hk1 hS => ?_)
    obtain ⟨x84, x85, x86, x87, f88, x89, f90, f91, f92, f93, x94⟩ := u
    obtain ⟨hP1, hK1, hD1⟩ := hB
    rw [ht] at hP1
    obtain ⟨hP, hD⟩ := qad (wr := []) (w1 := (qa5z a0 jbU jgC jgh jho jju jkw x94 x89 jaC jaN jaG jaF a1 jbF jb3 x84 x87 jcI x85 x86 jbF cyB jcq jju cyI f88 jbU cyI f90 jgC cyI f91 jgh cyI f92 jho cyI f93)) (wn := (qsi a0 jbU jgC jgh jho jju jkw x94 x89 jaC jaN jaG jaF a1 jbF jb3 x84 x87 jcI x85 x86 jbF cyB jcq jbU cyI f90 jgC cyI f91 jgh cyI f92 jho cyI f93 jju cyI f88)) hP hD [0, 1, 2, 7, 3, 4, 5, 6] [] [0, 1, 2, 4, 5, 6, 7, 3] hCc rfl (by decide +kernel) (by decide +kernel) (by decide +kernel) rfl hk1 hFc hP1 hD1
    generalize H1 = H at hP hS ⊢
    exact ((W.vret hx hb hr (fun t ht hW => ⟨⟨(x84, x87, x85, x86, f90, f91, f92, f93, x94, f88, x89), rfl, hw, by rw [ht]; exact hP, va_K.moved hW.alike hK, hD⟩, hS.F ht⟩) hS.2.2 (qaa qfg 7 rfl)))
