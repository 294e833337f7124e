/-- worlds by their leaves -/
def qVz (x0 x1 x2 : Nat) (x3 x4 : Value) (x5 : Int32) (x6 x7 : Nat) (x8 x9 x10 : Int32) (x11 : Value) (x12 x13 : Int32) (x14 : Nat) (x15 : ClassId) (x16 : NI) (x17 : Nat) (x18 : ClassId) (x19 : NI) (x20 : Nat) (x21 : ClassId) (x22 : NI) : va_W := [(x0, .inr (4, [.ref x1, .ref x2, x3, x4, .int x5])), (x6, .inr (8, [.ref x7, .int x8, .int x9, .int x10, x11, .int x12, .int x13])), (x14, .inl (x15, 600, .inl x16)), (x17, .inl (x18, 150, .inl x19)), (x20, .inl (x21, 150, .inl x22))]
def qqZ (x0 x1 : Nat) (x2 x3 x4 : Int32) (x5 : Value) (x6 x7 : Int32) (x8 : Nat) (x9 : ClassId) (x10 : NI) : va_W := [(x0, .inr (8, [.ref x1, .int x2, .int x3, .int x4, x5, .int x6, .int x7])), (x8, .inl (x9, 600, .inl x10))]
def qa90 (x0 x1 x2 : Nat) (x3 x4 : Value) (x5 : Int32) (x6 : Nat) (x7 : ClassId) (x8 : NI) (x9 : Nat) (x10 : ClassId) (x11 : NI) : va_W := [(x0, .inr (4, [.ref x1, .ref x2, x3, x4, .int x5])), (x6, .inl (x7, 150, .inl x8)), (x9, .inl (x10, 150, .inl x11))]
def qK8 (x0 x1 : Nat) (x2 x3 : Value) (x4 x5 : Nat) (x6 x7 x8 : Value) (x9 : Nat) (x10 x11 x12 x13 x14 x15 x16 x17 x18 : Value) (x19 : Int32) (x20 x21 : Nat) (x22 x23 x24 x25 x26 x27 : Int32) (x28 x29 x30 : Nat) (x31 x32 : Value) (x33 : Int32) (x34 : Nat) (x35 : ClassId) (x36 : NI) (x37 : Nat) (x38 : ClassId) (x39 : NI) (x40 : Nat) (x41 : ClassId) (x42 : NI) (x43 : Nat) (x44 x45 x46 x47 : Value) : va_W := [(x0, .inr (10, [.ref x1, x2, x3, .ref x4, .ref x5, x6, x7, x8, .ref x9, x10, x11, x12, x13, x14, x15, x16, x17, x18, .int x19])), (x20, .inr (8, [.ref x21, .int x22, .int x23, .int x24, .int x25, .int x26, .int x27])), (x28, .inr (4, [.ref x29, .ref x30, x31, x32, .int x33])), (x34, .inl (x35, 600, .inl x36)), (x37, .inl (x38, 150, .inl x39)), (x40, .inl (x41, 150, .inl x42)), (x43, .inr (1, [x44, x45, x46, x47]))]
def qa03 (x0 x1 : Nat) (x2 x3 x4 x5 x6 x7 x8 : Value) (x9 : Nat) (x10 x11 x12 x13 x14 x15 x16 x17 x18 : Value) (x19 : Int32) (x20 x21 : Nat) (x22 x23 x24 x25 x26 x27 : Int32) (x28 x29 x30 : Nat) (x31 x32 : Value) (x33 : Int32) (x34 : Nat) (x35 : ClassId) (x36 : NI) (x37 : Nat) (x38 : ClassId) (x39 : NI) (x40 : Nat) (x41 : ClassId) (x42 : NI) (x43 : Nat) (x44 x45 x46 x47 : Value) : va_W := [(x0, .inr (10, [.ref x1, x2, x3, x4, x5, x6, x7, x8, .ref x9, x10, x11, x12, x13, x14, x15, x16, x17, x18, .int x19])), (x20, .inr (8, [.ref x21, .int x22, .int x23, .int x24, .int x25, .int x26, .int x27])), (x28, .inr (4, [.ref x29, .ref x30, x31, x32, .int x33])), (x34, .inl (x35, 600, .inl x36)), (x37, .inl (x38, 150, .inl x39)), (x40, .inl (x41, 150, .inl x42)), (x43, .inr (1, [x44, x45, x46, x47]))]
def qa6i (x0 x1 : Nat) (x2 x3 : Value) (x4 x5 : Nat) (x6 x7 x8 : Value) (x9 : Nat) (x10 x11 x12 x13 x14 x15 x16 x17 x18 : Value) (x19 : Int32) (x20 x21 : Nat) (x22 x23 x24 x25 x26 x27 : Int32) : va_W := [(x0, .inr (10, [.ref x1, x2, x3, .ref x4, .ref x5, x6, x7, x8, .ref x9, x10, x11, x12, x13, x14, x15, x16, x17, x18, .int x19])), (x20, .inr (8, [.ref x21, .int x22, .int x23, .int x24, .int x25, .int x26, .int x27]))]
def qbey (x0 x1 x2 : Nat) (x3 x4 : Value) (x5 : Int32) (x6 : Nat) (x7 : ClassId) (x8 : NI) (x9 : Nat) (x10 : ClassId) (x11 : NI) (x12 : Nat) (x13 : ClassId) (x14 : NI) (x15 : Nat) (x16 x17 x18 x19 : Value) : va_W := [(x0, .inr (4, [.ref x1, .ref x2, x3, x4, .int x5])), (x6, .inl (x7, 600, .inl x8)), (x9, .inl (x10, 150, .inl x11)), (x12, .inl (x13, 150, .inl x14)), (x15, .inr (1, [x16, x17, x18, x19]))]
def qbeq (x0 x1 x2 : Nat) (x3 x4 : Value) (x5 : Int32) (x6 x7 : Nat) (x8 x9 x10 x11 x12 x13 : Int32) (x14 : Nat) (x15 : ClassId) (x16 : NI) (x17 : Nat) (x18 : ClassId) (x19 : NI) (x20 : Nat) (x21 : ClassId) (x22 : NI) : va_W := [(x0, .inr (4, [.ref x1, .ref x2, x3, x4, .int x5])), (x6, .inr (8, [.ref x7, .int x8, .int x9, .int x10, .int x11, .int x12, .int x13])), (x14, .inl (x15, 600, .inl x16)), (x17, .inl (x18, 150, .inl x19)), (x20, .inl (x21, 150, .inl x22))]
def qa1i (x0 x1 : Nat) (x2 x3 x4 x5 x6 x7 : Int32) : va_W := [(x0, .inr (8, [.ref x1, .int x2, .int x3, .int x4, .int x5, .int x6, .int x7]))]
def qbkL (x0 : Nat) (x1 x2 x3 x4 : Value) : va_W := [(x0, .inr (1, [x1, x2, x3, x4]))]
def qbgi (x0 x1 : Nat) (x2 x3 : Value) (x4 x5 : Nat) (x6 x7 x8 : Value) (x9 : Nat) (x10 x11 x12 x13 x14 x15 x16 x17 x18 : Value) (x19 : Int32) (x20 x21 : Nat) (x22 x23 x24 x25 x26 x27 : Int32) (x28 x29 x30 : Nat) (x31 x32 : Value) (x33 : Int32) (x34 : Nat) (x35 : ClassId) (x36 : NI) (x37 : Nat) (x38 : ClassId) (x39 : NI) (x40 : Nat) (x41 : ClassId) (x42 : NI) (x43 : Nat) (x44 x45 x46 : Value) (x47 : Nat) : va_W := [(x0, .inr (10, [.ref x1, x2, x3, .ref x4, .ref x5, x6, x7, x8, .ref x9, x10, x11, x12, x13, x14, x15, x16, x17, x18, .int x19])), (x20, .inr (8, [.ref x21, .int x22, .int x23, .int x24, .int x25, .int x26, .int x27])), (x28, .inr (4, [.ref x29, .ref x30, x31, x32, .int x33])), (x34, .inl (x35, 600, .inl x36)), (x37, .inl (x38, 150, .inl x39)), (x40, .inl (x41, 150, .inl x42)), (x43, .inr (1, [x44, x45, x46, .ref x47]))]
def qamL (x0 x1 : Nat) (x2 x3 : Value) (x4 x5 : Nat) (x6 x7 x8 : Value) (x9 : Nat) (x10 x11 x12 x13 x14 x15 x16 x17 x18 : Value) (x19 : Int32) (x20 x21 : Nat) (x22 x23 x24 x25 x26 x27 : Int32) (x28 x29 x30 : Nat) (x31 x32 : Value) (x33 : Int32) (x34 : Nat) (x35 : ClassId) (x36 : NI) (x37 : Nat) (x38 : ClassId) (x39 : NI) (x40 : Nat) (x41 : ClassId) (x42 : NI) (x43 : Nat) (x44 x45 x46 x47 : Value) (x48 : Nat) (x49 : ClassId) (x50 : Nat) (x51 : Nat → Int64) : va_W := [(x0, .inr (10, [.ref x1, x2, x3, .ref x4, .ref x5, x6, x7, x8, .ref x9, x10, x11, x12, x13, x14, x15, x16, x17, x18, .int x19])), (x20, .inr (8, [.ref x21, .int x22, .int x23, .int x24, .int x25, .int x26, .int x27])), (x28, .inr (4, [.ref x29, .ref x30, x31, x32, .int x33])), (x34, .inl (x35, 600, .inl x36)), (x37, .inl (x38, 150, .inl x39)), (x40, .inl (x41, 150, .inl x42)), (x43, .inr (1, [x44, x45, x46, x47])), (x48, .inl (x49, x50, .inr (.inl x51)))]
def qalL (x0 x1 : Nat) (x2 x3 x4 x5 x6 x7 x8 : Value) (x9 : Nat) (x10 x11 x12 x13 x14 x15 x16 x17 x18 : Value) (x19 : Int32) (x20 x21 : Nat) (x22 x23 x24 x25 x26 x27 : Int32) (x28 x29 x30 : Nat) (x31 x32 : Value) (x33 : Int32) (x34 : Nat) (x35 : ClassId) (x36 : NI) (x37 : Nat) (x38 : ClassId) (x39 : NI) (x40 : Nat) (x41 : ClassId) (x42 : NI) (x43 : Nat) (x44 x45 x46 x47 : Value) (x48 : Nat) (x49 : ClassId) (x50 : Nat) (x51 : Nat → Int64) : va_W := [(x0, .inr (10, [.ref x1, x2, x3, x4, x5, x6, x7, x8, .ref x9, x10, x11, x12, x13, x14, x15, x16, x17, x18, .int x19])), (x20, .inr (8, [.ref x21, .int x22, .int x23, .int x24, .int x25, .int x26, .int x27])), (x28, .inr (4, [.ref x29, .ref x30, x31, x32, .int x33])), (x34, .inl (x35, 600, .inl x36)), (x37, .inl (x38, 150, .inl x39)), (x40, .inl (x41, 150, .inl x42)), (x43, .inr (1, [x44, x45, x46, x47])), (x48, .inl (x49, x50, .inr (.inl x51)))]
def qDG (x0 x1 x2 x3 x4 x5 x6 x7 : Nat) (x8 : Value) (x9 x10 x11 : Int32) (x12 : Value) (x13 x14 : Nat) (x15 x16 x17 : Int32) (x18 : Value) (x19 x20 : Int32) (x21 : Nat) (x22 : ClassId) (x23 : NI) (x24 : Nat) (x25 : ClassId) (x26 : NI) (x27 : Nat) (x28 : ClassId) (x29 : NI) (x30 : Nat) (x31 : ClassId) (x32 : NI) (x33 : Nat) (x34 : ClassId) (x35 : NI) (x36 : Nat) (x37 : ClassId) (x38 : NI) (x39 : Nat) (x40 : ClassId) (x41 : NI) (x42 : Nat) (x43 : ClassId) (x44 : NI) : va_W := [(x0, .inr (2, [.ref x1, .ref x2, .ref x3, .ref x4, .ref x5, .ref x6, .ref x7, x8, .int x9, .int x10, .int x11, x12])), (x13, .inr (8, [.ref x14, .int x15, .int x16, .int x17, x18, .int x19, .int x20])), (x21, .inl (x22, 600, .inl x23)), (x24, .inl (x25, 36, .inl x26)), (x27, .inl (x28, 4, .inl x29)), (x30, .inl (x31, 4, .inl x32)), (x33, .inl (x34, 6, .inl x35)), (x36, .inl (x37, 6, .inl x38)), (x39, .inl (x40, 8, .inl x41)), (x42, .inl (x43, 8, .inl x44))]
def qaEu (x0 x1 x2 x3 x4 x5 x6 x7 : Nat) (x8 : Value) (x9 x10 x11 : Int32) (x12 : Value) (x13 : Nat) (x14 : ClassId) (x15 : NI) (x16 : Nat) (x17 : ClassId) (x18 : NI) (x19 : Nat) (x20 : ClassId) (x21 : NI) (x22 : Nat) (x23 : ClassId) (x24 : NI) (x25 : Nat) (x26 : ClassId) (x27 : NI) (x28 : Nat) (x29 : ClassId) (x30 : NI) (x31 : Nat) (x32 : ClassId) (x33 : NI) : va_W := [(x0, .inr (2, [.ref x1, .ref x2, .ref x3, .ref x4, .ref x5, .ref x6, .ref x7, x8, .int x9, .int x10, .int x11, x12])), (x13, .inl (x14, 36, .inl x15)), (x16, .inl (x17, 4, .inl x18)), (x19, .inl (x20, 4, .inl x21)), (x22, .inl (x23, 6, .inl x24)), (x25, .inl (x26, 6, .inl x27)), (x28, .inl (x29, 8, .inl x30)), (x31, .inl (x32, 8, .inl x33))]
def qa9U (x0 x1 x2 x3 x4 x5 x6 x7 : Nat) (x8 : Value) (x9 x10 x11 : Int32) (x12 : Value) (x13 x14 : Nat) (x15 x16 x17 : Int32) (x18 : Value) (x19 x20 : Int32) (x21 : Nat) (x22 : ClassId) (x23 : NI) (x24 : Nat) (x25 : ClassId) (x26 : NI) : va_W := [(x0, .inr (2, [.ref x1, .ref x2, .ref x3, .ref x4, .ref x5, .ref x6, .ref x7, x8, .int x9, .int x10, .int x11, x12])), (x13, .inr (8, [.ref x14, .int x15, .int x16, .int x17, x18, .int x19, .int x20])), (x21, .inl (x22, 600, .inl x23)), (x24, .inl (x25, 36, .inl x26))]
def qa5l (x0 x1 x2 x3 x4 x5 x6 x7 : Nat) (x8 : Value) (x9 x10 x11 : Int32) (x12 : Value) (x13 x14 : Nat) (x15 x16 x17 : Int32) (x18 : Value) (x19 x20 : Int32) (x21 : Nat) (x22 : ClassId) (x23 : NI) (x24 : Nat) (x25 : ClassId) (x26 : NI) (x27 : Nat) (x28 : ClassId) (x29 : NI) : va_W := [(x0, .inr (2, [.ref x1, .ref x2, .ref x3, .ref x4, .ref x5, .ref x6, .ref x7, x8, .int x9, .int x10, .int x11, x12])), (x13, .inr (8, [.ref x14, .int x15, .int x16, .int x17, x18, .int x19, .int x20])), (x21, .inl (x22, 600, .inl x23)), (x24, .inl (x25, 4, .inl x26)), (x27, .inl (x28, 4, .inl x29))]
def qa6y (x0 x1 x2 x3 x4 x5 x6 x7 : Nat) (x8 : Value) (x9 x10 x11 : Int32) (x12 : Value) (x13 x14 : Nat) (x15 x16 x17 : Int32) (x18 : Value) (x19 x20 : Int32) (x21 : Nat) (x22 : ClassId) (x23 : NI) (x24 : Nat) (x25 : ClassId) (x26 : NI) (x27 : Nat) (x28 : ClassId) (x29 : NI) : va_W := [(x0, .inr (2, [.ref x1, .ref x2, .ref x3, .ref x4, .ref x5, .ref x6, .ref x7, x8, .int x9, .int x10, .int x11, x12])), (x13, .inr (8, [.ref x14, .int x15, .int x16, .int x17, x18, .int x19, .int x20])), (x21, .inl (x22, 600, .inl x23)), (x24, .inl (x25, 6, .inl x26)), (x27, .inl (x28, 6, .inl x29))]
def qa6q (x0 x1 x2 x3 x4 x5 x6 x7 : Nat) (x8 : Value) (x9 x10 x11 : Int32) (x12 : Value) (x13 x14 : Nat) (x15 x16 x17 : Int32) (x18 : Value) (x19 x20 : Int32) (x21 : Nat) (x22 : ClassId) (x23 : NI) (x24 : Nat) (x25 : ClassId) (x26 : NI) (x27 : Nat) (x28 : ClassId) (x29 : NI) : va_W := [(x0, .inr (2, [.ref x1, .ref x2, .ref x3, .ref x4, .ref x5, .ref x6, .ref x7, x8, .int x9, .int x10, .int x11, x12])), (x13, .inr (8, [.ref x14, .int x15, .int x16, .int x17, x18, .int x19, .int x20])), (x21, .inl (x22, 600, .inl x23)), (x24, .inl (x25, 8, .inl x26)), (x27, .inl (x28, 8, .inl x29))]
def qpJ (x0 x1 x2 x3 x4 x5 x6 x7 : Nat) (x8 : Value) (x9 x10 x11 x12 : Int32) (x13 : Nat) (x14 : ClassId) (x15 : NI) (x16 x17 : Nat) (x18 x19 x20 : Int32) (x21 : Value) (x22 x23 : Int32) (x24 : Nat) (x25 : ClassId) (x26 : NI) (x27 : Nat) (x28 : ClassId) (x29 : NI) (x30 : Nat) (x31 : ClassId) (x32 : NI) (x33 : Nat) (x34 : ClassId) (x35 : NI) (x36 : Nat) (x37 : ClassId) (x38 : NI) (x39 : Nat) (x40 : ClassId) (x41 : NI) (x42 : Nat) (x43 : ClassId) (x44 : NI) : va_W := [(x0, .inr (2, [.ref x1, .ref x2, .ref x3, .ref x4, .ref x5, .ref x6, .ref x7, x8, .int x9, .int x10, .int x11, .int x12])), (x13, .inl (x14, 36, .inl x15)), (x16, .inr (8, [.ref x17, .int x18, .int x19, .int x20, x21, .int x22, .int x23])), (x24, .inl (x25, 600, .inl x26)), (x27, .inl (x28, 8, .inl x29)), (x30, .inl (x31, 4, .inl x32)), (x33, .inl (x34, 8, .inl x35)), (x36, .inl (x37, 4, .inl x38)), (x39, .inl (x40, 6, .inl x41)), (x42, .inl (x43, 6, .inl x44))]
def qa4A (x0 x1 x2 x3 x4 x5 x6 x7 : Nat) (x8 : Value) (x9 x10 x11 x12 : Int32) (x13 x14 : Nat) (x15 x16 x17 : Int32) (x18 : Value) (x19 x20 : Int32) (x21 : Nat) (x22 : ClassId) (x23 : NI) (x24 : Nat) (x25 : ClassId) (x26 : NI) (x27 : Nat) (x28 : ClassId) (x29 : NI) (x30 : Nat) (x31 : ClassId) (x32 : NI) (x33 : Nat) (x34 : ClassId) (x35 : NI) (x36 : Nat) (x37 : ClassId) (x38 : NI) (x39 : Nat) (x40 : ClassId) (x41 : NI) (x42 : Nat) (x43 : ClassId) (x44 : NI) : va_W := [(x0, .inr (2, [.ref x1, .ref x2, .ref x3, .ref x4, .ref x5, .ref x6, .ref x7, x8, .int x9, .int x10, .int x11, .int x12])), (x13, .inr (8, [.ref x14, .int x15, .int x16, .int x17, x18, .int x19, .int x20])), (x21, .inl (x22, 600, .inl x23)), (x24, .inl (x25, 36, .inl x26)), (x27, .inl (x28, 4, .inl x29)), (x30, .inl (x31, 4, .inl x32)), (x33, .inl (x34, 6, .inl x35)), (x36, .inl (x37, 6, .inl x38)), (x39, .inl (x40, 8, .inl x41)), (x42, .inl (x43, 8, .inl x44))]
def qa4D (x0 x1 x2 x3 x4 x5 x6 x7 : Nat) (x8 : Value) (x9 x10 x11 x12 : Int32) (x13 : Nat) (x14 : ClassId) (x15 : NI) (x16 : Nat) (x17 : ClassId) (x18 : NI) (x19 : Nat) (x20 : ClassId) (x21 : NI) (x22 : Nat) (x23 : ClassId) (x24 : NI) : va_W := [(x0, .inr (2, [.ref x1, .ref x2, .ref x3, .ref x4, .ref x5, .ref x6, .ref x7, x8, .int x9, .int x10, .int x11, .int x12])), (x13, .inl (x14, 8, .inl x15)), (x16, .inl (x17, 4, .inl x18)), (x19, .inl (x20, 8, .inl x21)), (x22, .inl (x23, 4, .inl x24))]
def qa46 (x0 x1 : Nat) (x2 x3 x4 : Int32) (x5 : Value) (x6 x7 : Int32) : va_W := [(x0, .inr (8, [.ref x1, .int x2, .int x3, .int x4, x5, .int x6, .int x7]))]
def qzQ (x0 x1 x2 x3 x4 : Nat) (x5 : Value) (x6 : Nat) (x7 x8 : Value) (x9 : Nat) (x10 : Value) (x11 : Nat) (x12 x13 x14 x15 : Value) (x16 x17 : Int32) (x18 : Value) (x19 : Int32) (x20 x21 : Nat) (x22 x23 x24 x25 x26 x27 : Int32) (x28 x29 x30 x31 x32 x33 x34 x35 : Nat) (x36 : Value) (x37 x38 x39 x40 : Int32) (x41 : Nat) (x42 : ClassId) (x43 : NI) (x44 : Nat) (x45 : ClassId) (x46 : NI) (x47 : Nat) (x48 : ClassId) (x49 : NI) (x50 : Nat) (x51 : ClassId) (x52 : NI) (x53 : Nat) (x54 : ClassId) (x55 : NI) (x56 : Nat) (x57 : ClassId) (x58 : NI) (x59 : Nat) (x60 : ClassId) (x61 : NI) (x62 : Nat) (x63 : ClassId) (x64 : NI) (x65 x66 x67 : Nat) (x68 x69 : Value) (x70 : Int32) (x71 : Nat) (x72 : ClassId) (x73 : NI) (x74 : Nat) (x75 : ClassId) (x76 : NI) (x77 x78 : Nat) (x79 : Int32) (x80 : Nat) (x81 : ClassId) (x82 : NI) (x83 x84 : Nat) (x85 x86 x87 : Value) (x88 : Nat) (x89 : ClassId) (x90 : NI) (x91 : Nat) (x92 : Value) (x93 : Int32) : va_W := [(x0, .inr (10, [.ref x1, .ref x2, .ref x3, .ref x4, x5, .ref x6, x7, x8, .ref x9, x10, .ref x11, x12, x13, x14, x15, .int x16, .int x17, x18, .int x19])), (x20, .inr (8, [.ref x21, .int x22, .int x23, .int x24, .int x25, .int x26, .int x27])), (x28, .inr (2, [.ref x29, .ref x30, .ref x31, .ref x32, .ref x33, .ref x34, .ref x35, x36, .int x37, .int x38, .int x39, .int x40])), (x41, .inl (x42, 36, .inl x43)), (x44, .inl (x45, 600, .inl x46)), (x47, .inl (x48, 8, .inl x49)), (x50, .inl (x51, 4, .inl x52)), (x53, .inl (x54, 8, .inl x55)), (x56, .inl (x57, 4, .inl x58)), (x59, .inl (x60, 6, .inl x61)), (x62, .inl (x63, 6, .inl x64)), (x65, .inr (4, [.ref x66, .ref x67, x68, x69, .int x70])), (x71, .inl (x72, 150, .inl x73)), (x74, .inl (x75, 150, .inl x76)), (x77, .inr (0, [.ref x78, .int x79])), (x80, .inl (x81, 8, .inl x82)), (x83, .inr (1, [.ref x84, x85, x86, x87])), (x88, .inl (x89, 64, .inl x90)), (x91, .inr (5, [x92, .int x93]))]
def qaR2 (x0 x1 : Nat) (x2 x3 : Value) (x4 : Nat) (x5 : Value) (x6 : Nat) (x7 x8 : Value) (x9 : Nat) (x10 : Value) (x11 : Nat) (x12 x13 x14 x15 : Value) (x16 x17 : Int32) (x18 : Value) (x19 : Int32) (x20 x21 : Nat) (x22 x23 x24 x25 x26 x27 : Int32) (x28 x29 x30 x31 x32 x33 x34 x35 : Nat) (x36 : Value) (x37 x38 x39 x40 : Int32) (x41 : Nat) (x42 : ClassId) (x43 : NI) (x44 : Nat) (x45 : ClassId) (x46 : NI) (x47 : Nat) (x48 : ClassId) (x49 : NI) (x50 : Nat) (x51 : ClassId) (x52 : NI) (x53 : Nat) (x54 : ClassId) (x55 : NI) (x56 : Nat) (x57 : ClassId) (x58 : NI) (x59 : Nat) (x60 : ClassId) (x61 : NI) (x62 : Nat) (x63 : ClassId) (x64 : NI) (x65 x66 x67 : Nat) (x68 x69 : Value) (x70 : Int32) (x71 : Nat) (x72 : ClassId) (x73 : NI) (x74 : Nat) (x75 : ClassId) (x76 : NI) (x77 x78 : Nat) (x79 : Int32) (x80 : Nat) (x81 : ClassId) (x82 : NI) (x83 x84 : Nat) (x85 x86 x87 : Value) (x88 : Nat) (x89 : ClassId) (x90 : NI) (x91 : Nat) (x92 : Value) (x93 : Int32) : va_W := [(x0, .inr (10, [.ref x1, x2, x3, .ref x4, x5, .ref x6, x7, x8, .ref x9, x10, .ref x11, x12, x13, x14, x15, .int x16, .int x17, x18, .int x19])), (x20, .inr (8, [.ref x21, .int x22, .int x23, .int x24, .int x25, .int x26, .int x27])), (x28, .inr (2, [.ref x29, .ref x30, .ref x31, .ref x32, .ref x33, .ref x34, .ref x35, x36, .int x37, .int x38, .int x39, .int x40])), (x41, .inl (x42, 36, .inl x43)), (x44, .inl (x45, 600, .inl x46)), (x47, .inl (x48, 8, .inl x49)), (x50, .inl (x51, 4, .inl x52)), (x53, .inl (x54, 8, .inl x55)), (x56, .inl (x57, 4, .inl x58)), (x59, .inl (x60, 6, .inl x61)), (x62, .inl (x63, 6, .inl x64)), (x65, .inr (4, [.ref x66, .ref x67, x68, x69, .int x70])), (x71, .inl (x72, 150, .inl x73)), (x74, .inl (x75, 150, .inl x76)), (x77, .inr (0, [.ref x78, .int x79])), (x80, .inl (x81, 8, .inl x82)), (x83, .inr (1, [.ref x84, x85, x86, x87])), (x88, .inl (x89, 64, .inl x90)), (x91, .inr (5, [x92, .int x93]))]
def qaYq (x0 x1 x2 x3 x4 : Nat) (x5 : Value) (x6 : Nat) (x7 x8 : Value) (x9 : Nat) (x10 : Value) (x11 : Nat) (x12 x13 x14 x15 : Value) (x16 x17 : Int32) (x18 : Value) (x19 : Int32) (x20 x21 : Nat) (x22 x23 x24 x25 x26 x27 : Int32) : va_W := [(x0, .inr (10, [.ref x1, .ref x2, .ref x3, .ref x4, x5, .ref x6, x7, x8, .ref x9, x10, .ref x11, x12, x13, x14, x15, .int x16, .int x17, x18, .int x19])), (x20, .inr (8, [.ref x21, .int x22, .int x23, .int x24, .int x25, .int x26, .int x27]))]
def qa3t (x0 x1 x2 x3 x4 x5 x6 x7 : Nat) (x8 : Value) (x9 x10 x11 x12 : Int32) (x13 : Nat) (x14 : ClassId) (x15 : NI) (x16 : Nat) (x17 : ClassId) (x18 : NI) (x19 : Nat) (x20 : ClassId) (x21 : NI) (x22 : Nat) (x23 : ClassId) (x24 : NI) (x25 : Nat) (x26 : ClassId) (x27 : NI) (x28 : Nat) (x29 : ClassId) (x30 : NI) (x31 : Nat) (x32 : ClassId) (x33 : NI) (x34 : Nat) (x35 : ClassId) (x36 : NI) (x37 x38 x39 : Nat) (x40 x41 : Value) (x42 : Int32) (x43 : Nat) (x44 : ClassId) (x45 : NI) (x46 : Nat) (x47 : ClassId) (x48 : NI) (x49 x50 : Nat) (x51 : Int32) (x52 : Nat) (x53 : ClassId) (x54 : NI) (x55 x56 : Nat) (x57 x58 x59 : Value) (x60 : Nat) (x61 : ClassId) (x62 : NI) (x63 : Nat) (x64 : Value) (x65 : Int32) : va_W := [(x0, .inr (2, [.ref x1, .ref x2, .ref x3, .ref x4, .ref x5, .ref x6, .ref x7, x8, .int x9, .int x10, .int x11, .int x12])), (x13, .inl (x14, 36, .inl x15)), (x16, .inl (x17, 600, .inl x18)), (x19, .inl (x20, 8, .inl x21)), (x22, .inl (x23, 4, .inl x24)), (x25, .inl (x26, 8, .inl x27)), (x28, .inl (x29, 4, .inl x30)), (x31, .inl (x32, 6, .inl x33)), (x34, .inl (x35, 6, .inl x36)), (x37, .inr (4, [.ref x38, .ref x39, x40, x41, .int x42])), (x43, .inl (x44, 150, .inl x45)), (x46, .inl (x47, 150, .inl x48)), (x49, .inr (0, [.ref x50, .int x51])), (x52, .inl (x53, 8, .inl x54)), (x55, .inr (1, [.ref x56, x57, x58, x59])), (x60, .inl (x61, 64, .inl x62)), (x63, .inr (5, [x64, .int x65]))]
def qa3T (x0 x1 x2 x3 x4 x5 x6 x7 : Nat) (x8 : Value) (x9 x10 x11 x12 : Int32) (x13 : Nat) (x14 : ClassId) (x15 : NI) (x16 x17 : Nat) (x18 x19 x20 x21 x22 x23 : Int32) (x24 : Nat) (x25 : ClassId) (x26 : NI) (x27 : Nat) (x28 : ClassId) (x29 : NI) (x30 : Nat) (x31 : ClassId) (x32 : NI) (x33 : Nat) (x34 : ClassId) (x35 : NI) (x36 : Nat) (x37 : ClassId) (x38 : NI) (x39 : Nat) (x40 : ClassId) (x41 : NI) (x42 : Nat) (x43 : ClassId) (x44 : NI) : va_W := [(x0, .inr (2, [.ref x1, .ref x2, .ref x3, .ref x4, .ref x5, .ref x6, .ref x7, x8, .int x9, .int x10, .int x11, .int x12])), (x13, .inl (x14, 36, .inl x15)), (x16, .inr (8, [.ref x17, .int x18, .int x19, .int x20, .int x21, .int x22, .int x23])), (x24, .inl (x25, 600, .inl x26)), (x27, .inl (x28, 8, .inl x29)), (x30, .inl (x31, 4, .inl x32)), (x33, .inl (x34, 8, .inl x35)), (x36, .inl (x37, 4, .inl x38)), (x39, .inl (x40, 6, .inl x41)), (x42, .inl (x43, 6, .inl x44))]
def qa6b (x0 x1 : Nat) (x2 : Int32) (x3 : Nat) (x4 : ClassId) (x5 : NI) : va_W := [(x0, .inr (0, [.ref x1, .int x2])), (x3, .inl (x4, 8, .inl x5))]
def qbgJ (x0 x1 : Nat) (x2 x3 x4 : Value) (x5 : Nat) (x6 : ClassId) (x7 : NI) (x8 x9 x10 x11 x12 x13 x14 x15 : Nat) (x16 : Value) (x17 x18 x19 x20 : Int32) (x21 : Nat) (x22 : ClassId) (x23 : NI) (x24 : Nat) (x25 : ClassId) (x26 : NI) (x27 : Nat) (x28 : ClassId) (x29 : NI) : va_W := [(x0, .inr (1, [.ref x1, x2, x3, x4])), (x5, .inl (x6, 64, .inl x7)), (x8, .inr (2, [.ref x9, .ref x10, .ref x11, .ref x12, .ref x13, .ref x14, .ref x15, x16, .int x17, .int x18, .int x19, .int x20])), (x21, .inl (x22, 36, .inl x23)), (x24, .inl (x25, 6, .inl x26)), (x27, .inl (x28, 6, .inl x29))]
def qabI (x0 x1 x2 x3 x4 : Nat) (x5 : Value) (x6 : Nat) (x7 x8 : Value) (x9 : Nat) (x10 : Value) (x11 : Nat) (x12 x13 x14 x15 : Value) (x16 x17 : Int32) (x18 : Value) (x19 : Int32) (x20 x21 : Nat) (x22 x23 x24 x25 x26 x27 : Int32) (x28 x29 x30 x31 x32 x33 x34 x35 : Nat) (x36 : Value) (x37 x38 x39 x40 : Int32) (x41 : Nat) (x42 : ClassId) (x43 : NI) (x44 : Nat) (x45 : ClassId) (x46 : NI) (x47 : Nat) (x48 : ClassId) (x49 : NI) (x50 : Nat) (x51 : ClassId) (x52 : NI) (x53 : Nat) (x54 : ClassId) (x55 : NI) (x56 : Nat) (x57 : ClassId) (x58 : NI) (x59 : Nat) (x60 : ClassId) (x61 : NI) (x62 : Nat) (x63 : ClassId) (x64 : NI) (x65 x66 x67 : Nat) (x68 x69 : Value) (x70 : Int32) (x71 : Nat) (x72 : ClassId) (x73 : NI) (x74 : Nat) (x75 : ClassId) (x76 : NI) (x77 x78 : Nat) (x79 : Int32) (x80 : Nat) (x81 : ClassId) (x82 : NI) (x83 x84 : Nat) (x85 : Value) (x86 x87 x88 : Nat) (x89 : ClassId) (x90 : NI) (x91 : Nat) (x92 : Value) (x93 : Int32) : va_W := [(x0, .inr (10, [.ref x1, .ref x2, .ref x3, .ref x4, x5, .ref x6, x7, x8, .ref x9, x10, .ref x11, x12, x13, x14, x15, .int x16, .int x17, x18, .int x19])), (x20, .inr (8, [.ref x21, .int x22, .int x23, .int x24, .int x25, .int x26, .int x27])), (x28, .inr (2, [.ref x29, .ref x30, .ref x31, .ref x32, .ref x33, .ref x34, .ref x35, x36, .int x37, .int x38, .int x39, .int x40])), (x41, .inl (x42, 36, .inl x43)), (x44, .inl (x45, 600, .inl x46)), (x47, .inl (x48, 8, .inl x49)), (x50, .inl (x51, 4, .inl x52)), (x53, .inl (x54, 8, .inl x55)), (x56, .inl (x57, 4, .inl x58)), (x59, .inl (x60, 6, .inl x61)), (x62, .inl (x63, 6, .inl x64)), (x65, .inr (4, [.ref x66, .ref x67, x68, x69, .int x70])), (x71, .inl (x72, 150, .inl x73)), (x74, .inl (x75, 150, .inl x76)), (x77, .inr (0, [.ref x78, .int x79])), (x80, .inl (x81, 8, .inl x82)), (x83, .inr (1, [.ref x84, x85, .ref x86, .ref x87])), (x88, .inl (x89, 64, .inl x90)), (x91, .inr (5, [x92, .int x93]))]
def qaj1 (x0 x1 x2 x3 x4 : Nat) (x5 : Value) (x6 : Nat) (x7 x8 : Value) (x9 : Nat) (x10 : Value) (x11 : Nat) (x12 x13 x14 x15 : Value) (x16 x17 : Int32) (x18 : Value) (x19 : Int32) (x20 x21 : Nat) (x22 x23 x24 x25 x26 x27 : Int32) (x28 x29 x30 x31 x32 x33 x34 x35 : Nat) (x36 : Value) (x37 x38 x39 x40 : Int32) (x41 : Nat) (x42 : ClassId) (x43 : NI) (x44 : Nat) (x45 : ClassId) (x46 : NI) (x47 : Nat) (x48 : ClassId) (x49 : NI) (x50 : Nat) (x51 : ClassId) (x52 : NI) (x53 : Nat) (x54 : ClassId) (x55 : NI) (x56 : Nat) (x57 : ClassId) (x58 : NI) (x59 : Nat) (x60 : ClassId) (x61 : NI) (x62 : Nat) (x63 : ClassId) (x64 : NI) (x65 x66 x67 : Nat) (x68 x69 : Value) (x70 : Int32) (x71 : Nat) (x72 : ClassId) (x73 : NI) (x74 : Nat) (x75 : ClassId) (x76 : NI) (x77 x78 : Nat) (x79 : Int32) (x80 : Nat) (x81 : ClassId) (x82 : NI) (x83 x84 : Nat) (x85 x86 x87 : Value) (x88 : Nat) (x89 : ClassId) (x90 : NI) (x91 : Nat) (x92 : Value) (x93 : Int32) (x94 : Nat) (x95 : ClassId) (x96 : Nat) (x97 : Nat → Int64) : va_W := [(x0, .inr (10, [.ref x1, .ref x2, .ref x3, .ref x4, x5, .ref x6, x7, x8, .ref x9, x10, .ref x11, x12, x13, x14, x15, .int x16, .int x17, x18, .int x19])), (x20, .inr (8, [.ref x21, .int x22, .int x23, .int x24, .int x25, .int x26, .int x27])), (x28, .inr (2, [.ref x29, .ref x30, .ref x31, .ref x32, .ref x33, .ref x34, .ref x35, x36, .int x37, .int x38, .int x39, .int x40])), (x41, .inl (x42, 36, .inl x43)), (x44, .inl (x45, 600, .inl x46)), (x47, .inl (x48, 8, .inl x49)), (x50, .inl (x51, 4, .inl x52)), (x53, .inl (x54, 8, .inl x55)), (x56, .inl (x57, 4, .inl x58)), (x59, .inl (x60, 6, .inl x61)), (x62, .inl (x63, 6, .inl x64)), (x65, .inr (4, [.ref x66, .ref x67, x68, x69, .int x70])), (x71, .inl (x72, 150, .inl x73)), (x74, .inl (x75, 150, .inl x76)), (x77, .inr (0, [.ref x78, .int x79])), (x80, .inl (x81, 8, .inl x82)), (x83, .inr (1, [.ref x84, x85, x86, x87])), (x88, .inl (x89, 64, .inl x90)), (x91, .inr (5, [x92, .int x93])), (x94, .inl (x95, x96, .inr (.inl x97)))]
def qanh (x0 x1 : Nat) (x2 x3 : Value) (x4 : Nat) (x5 : Value) (x6 : Nat) (x7 x8 : Value) (x9 : Nat) (x10 : Value) (x11 : Nat) (x12 x13 x14 x15 : Value) (x16 x17 : Int32) (x18 : Value) (x19 : Int32) (x20 x21 : Nat) (x22 x23 x24 x25 x26 x27 : Int32) (x28 x29 x30 x31 x32 x33 x34 x35 : Nat) (x36 : Value) (x37 x38 x39 x40 : Int32) (x41 : Nat) (x42 : ClassId) (x43 : NI) (x44 : Nat) (x45 : ClassId) (x46 : NI) (x47 : Nat) (x48 : ClassId) (x49 : NI) (x50 : Nat) (x51 : ClassId) (x52 : NI) (x53 : Nat) (x54 : ClassId) (x55 : NI) (x56 : Nat) (x57 : ClassId) (x58 : NI) (x59 : Nat) (x60 : ClassId) (x61 : NI) (x62 : Nat) (x63 : ClassId) (x64 : NI) (x65 x66 x67 : Nat) (x68 x69 : Value) (x70 : Int32) (x71 : Nat) (x72 : ClassId) (x73 : NI) (x74 : Nat) (x75 : ClassId) (x76 : NI) (x77 x78 : Nat) (x79 : Int32) (x80 : Nat) (x81 : ClassId) (x82 : NI) (x83 x84 : Nat) (x85 x86 x87 : Value) (x88 : Nat) (x89 : ClassId) (x90 : NI) (x91 : Nat) (x92 : Value) (x93 : Int32) (x94 : Nat) (x95 : ClassId) (x96 : Nat) (x97 : Nat → Int64) : va_W := [(x0, .inr (10, [.ref x1, x2, x3, .ref x4, x5, .ref x6, x7, x8, .ref x9, x10, .ref x11, x12, x13, x14, x15, .int x16, .int x17, x18, .int x19])), (x20, .inr (8, [.ref x21, .int x22, .int x23, .int x24, .int x25, .int x26, .int x27])), (x28, .inr (2, [.ref x29, .ref x30, .ref x31, .ref x32, .ref x33, .ref x34, .ref x35, x36, .int x37, .int x38, .int x39, .int x40])), (x41, .inl (x42, 36, .inl x43)), (x44, .inl (x45, 600, .inl x46)), (x47, .inl (x48, 8, .inl x49)), (x50, .inl (x51, 4, .inl x52)), (x53, .inl (x54, 8, .inl x55)), (x56, .inl (x57, 4, .inl x58)), (x59, .inl (x60, 6, .inl x61)), (x62, .inl (x63, 6, .inl x64)), (x65, .inr (4, [.ref x66, .ref x67, x68, x69, .int x70])), (x71, .inl (x72, 150, .inl x73)), (x74, .inl (x75, 150, .inl x76)), (x77, .inr (0, [.ref x78, .int x79])), (x80, .inl (x81, 8, .inl x82)), (x83, .inr (1, [.ref x84, x85, x86, x87])), (x88, .inl (x89, 64, .inl x90)), (x91, .inr (5, [x92, .int x93])), (x94, .inl (x95, x96, .inr (.inl x97)))]
def qr2 (x0 x1 x2 x3 x4 x5 : Nat) (x6 : Value) (x7 x8 x9 x10 : Int32) (x11 x12 : Value) (x13 x14 : Nat) (x15 x16 x17 : Int32) (x18 : Value) (x19 x20 : Int32) (x21 : Nat) (x22 : ClassId) (x23 : NI) (x24 : Nat) (x25 : ClassId) (x26 : NI) (x27 : Nat) (x28 : ClassId) (x29 : NI) (x30 : Nat) (x31 : ClassId) (x32 : NI) (x33 : Nat) (x34 : ClassId) (x35 : NI) (x36 : Nat) (x37 : ClassId) (x38 : NI) : va_W := [(x0, .inr (9, [.ref x1, .ref x2, .ref x3, .ref x4, .ref x5, x6, .int x7, .int x8, .int x9, .int x10, x11, x12])), (x13, .inr (8, [.ref x14, .int x15, .int x16, .int x17, x18, .int x19, .int x20])), (x21, .inl (x22, 600, .inl x23)), (x24, .inl (x25, 50, .inl x26)), (x27, .inl (x28, 50, .inl x29)), (x30, .inl (x31, 50, .inl x32)), (x33, .inl (x34, 50, .inl x35)), (x36, .inl (x37, 6, .inl x38))]
def qIs (x0 x1 x2 x3 x4 x5 : Nat) (x6 : Value) (x7 x8 x9 x10 : Int32) (x11 x12 : Value) (x13 : Nat) (x14 : ClassId) (x15 : NI) (x16 : Nat) (x17 : ClassId) (x18 : NI) (x19 : Nat) (x20 : ClassId) (x21 : NI) (x22 : Nat) (x23 : ClassId) (x24 : NI) (x25 : Nat) (x26 : ClassId) (x27 : NI) : va_W := [(x0, .inr (9, [.ref x1, .ref x2, .ref x3, .ref x4, .ref x5, x6, .int x7, .int x8, .int x9, .int x10, x11, x12])), (x13, .inl (x14, 50, .inl x15)), (x16, .inl (x17, 50, .inl x18)), (x19, .inl (x20, 50, .inl x21)), (x22, .inl (x23, 50, .inl x24)), (x25, .inl (x26, 6, .inl x27))]
def q4s (x0 x1 x2 x3 x4 x5 : Nat) (x6 : Value) (x7 x8 x9 x10 : Int32) (x11 x12 : Value) (x13 : Nat) (x14 : ClassId) (x15 : NI) (x16 : Nat) (x17 : ClassId) (x18 : NI) (x19 : Nat) (x20 : ClassId) (x21 : NI) (x22 : Nat) (x23 : ClassId) (x24 : NI) : va_W := [(x0, .inr (9, [.ref x1, .ref x2, .ref x3, .ref x4, .ref x5, x6, .int x7, .int x8, .int x9, .int x10, x11, x12])), (x13, .inl (x14, 50, .inl x15)), (x16, .inl (x17, 50, .inl x18)), (x19, .inl (x20, 50, .inl x21)), (x22, .inl (x23, 50, .inl x24))]
def qaRE (x0 x1 : Nat) (x2 x3 x4 : Int32) (x5 : Value) (x6 x7 : Int32) (x8 : Nat) (x9 : ClassId) (x10 : NI) (x11 : Nat) (x12 : ClassId) (x13 : NI) : va_W := [(x0, .inr (8, [.ref x1, .int x2, .int x3, .int x4, x5, .int x6, .int x7])), (x8, .inl (x9, 600, .inl x10)), (x11, .inl (x12, 6, .inl x13))]
def qa3b (x0 x1 x2 x3 x4 x5 : Nat) (x6 : Value) (x7 x8 x9 x10 : Int32) (x11 x12 : Value) (x13 x14 : Nat) (x15 x16 x17 : Int32) (x18 : Value) (x19 x20 : Int32) (x21 : Nat) (x22 : ClassId) (x23 : NI) (x24 : Nat) (x25 : ClassId) (x26 : NI) (x27 : Nat) (x28 : ClassId) (x29 : NI) (x30 : Nat) (x31 : ClassId) (x32 : NI) (x33 : Nat) (x34 : ClassId) (x35 : NI) (x36 : Nat) (x37 : ClassId) (x38 : NI) : va_W := [(x0, .inr (9, [.ref x1, .ref x2, .ref x3, .ref x4, .ref x5, x6, .int x7, .int x8, .int x9, .int x10, x11, x12])), (x13, .inr (8, [.ref x14, .int x15, .int x16, .int x17, x18, .int x19, .int x20])), (x21, .inl (x22, 600, .inl x23)), (x24, .inl (x25, 6, .inl x26)), (x27, .inl (x28, 50, .inl x29)), (x30, .inl (x31, 50, .inl x32)), (x33, .inl (x34, 50, .inl x35)), (x36, .inl (x37, 50, .inl x38))]
theorem q9G : ∀ w ∈ u_ws RX4 TX4 5, w ∈ wsX4_readFrom := uiM qCJ euX4 (by decide +kernel)
theorem q7c : (.fieldLink RX4 27 "MarchHares$Law" "length" "I" : Cond) ∈ wsX4_readFrom := qCJ 208 (by decide +kernel)
set_option maxHeartbeats 4000000 in
set_option maxRecDepth 100000 in
theorem qasu (l : Launch) (dC : Nat → ClassId) (dI : Nat → Nat → Nat) (cyB cyI cyJ cyP : ClassId) (a0 a1 jbF jbU jcK sz : Nat) (jhW jaE jcI : Value) (jb5 : Int32) (jcq : NI) (jb7 jhS jeF jcU jbM : Int32) (jdC jfY : NI) {Q : Int32 → Int32 → Int32 → Int32 → Int32 → NI → NI → Prop} (hw : qZs jb5 jcq jb7 jhS jeF jcU jbM jdC jfY Q) : Met l yX4_readFrom wsX4_readFrom ({ frames := 33, cells := 0, slots := 0, locals := 757 }) (va_Pc [.ref a0, .ref a1] (cPs (zE) l (dC, dI) (kT cyB cyI cyJ cyP) (qVz a0 jbU jcK jhW jaE jb7 a1 jbF jb5 jhS jeF jcI jcU jbM jbF cyB jcq jbU cyI jdC jcK cyI jfY) sz)) (va_Qv (fun (u : Int32 × Int32 × Int32 × Int32 × Int32 × NI × NI) => Q u.1 u.2.1 u.2.2.1 u.2.2.2.1 u.2.2.2.2.1 u.2.2.2.2.2.1 u.2.2.2.2.2.2) (cB (dC, dI) (kT cyB cyI cyJ cyP) (va_A (qVz a0 jbU jcK jhW jaE jb7 a1 jbF jb5 jhS jeF jcI jcU jbM jbF cyB jcq jbU cyI jdC jcK cyI jfY) sz) (fun u : Int32 × Int32 × Int32 × Int32 × Int32 × NI × NI => ((qVz a0 jbU jcK jhW jaE u.1 a1 jbF jb5 u.2.1 u.2.2.1 jcI u.2.2.2.1 u.2.2.2.2.1 jbF cyB jcq jbU cyI u.2.2.2.2.2.1 jcK cyI u.2.2.2.2.2.2) : va_W))) (va_A (qVz a0 jbU jcK jhW jaE jb7 a1 jbF jb5 jhS jeF jcI jcU jbM jbF cyB jcq jbU cyI jdC jcK cyI jfY) sz)) 0 0 (va_A (qVz a0 jbU jcK jhW jaE jb7 a1 jbF jb5 jhS jeF jcI jcU jbM jbF cyB jcq jbU cyI jdC jcK cyI jfY) sz) := by
  refine Met.ofW (cc := cX4_readFrom) (maxL := 2) (ret := none) (by decide) rfl ?_
  intro p e s m args below meth c s₁ B hml hv
  obtain ⟨rfl, ⟨hsz, hP, hK, hD0, hNw, hXl, hXu, hXn, hXt⟩, hE0⟩ := hv
  have hx := B.exec
  have hb := B.bytes
  have hr := B.returns
  have hts := atoms_spec (ws := wsX4_readFrom) B.pre
  have hown : s.vm.findClass RX4 = some m.cls := findClass_of_methodNamed B.named
  have hlocks := B.notSynchronized
  subst hsz
  have hD := hD0.self (sz := s.heap.size)
  generalize hAe : va_A (qVz a0 jbU jcK jhW jaE jb7 a1 jbF jb5 jhS jeF jcI jcU jbM jbF cyB jcq jbU cyI jdC jcK cyI jfY) s.heap.size = A at hD hXu hXn hE0 ⊢
  have hA : ∀ q : Nat, s.heap.size ≤ q → A q := fun q h => by rw [← hAe]; exact Or.inr h
  have hS : va_S A s.heap s.heap [] := va_S.rf
  have hP : va_P (dC, dI) vwCl (qVz a0 jbU jcK jhW jaE jb7 a1 jbF jb5 jhS jeF jcI jcU jbM jbF cyB jcq jbU cyI jdC jcK cyI jfY) s.heap := hP
  have hl := lv_entry ([.ref a0, .ref a1]) (n := 2) (nbq rfl)
  rw [lg_entry_eq]
  generalize (lg_sl ([.ref a0, .ref a1]) ++ List.replicate (2 - (lg_sl ([.ref a0, .ref a1])).length) Slot.unset).toArray = ls at hl ⊢
  have hl : lv_has ls 2 [(0, .ref a0), (1, .ref a1)] := hl
  have hY : cfY l s A := ⟨hXl, hXu, hXn, hXt⟩
  have C0 : cfx p s m _ meth c cX4_readFrom none wsX4_readFrom RX4 2 A (dC, dI) (kT cyB cyI cyJ cyP) ∧ cfY l s A ∧ zE A s s.heap := ⟨⟨hx, hb, hr, hts, hown, hlocks, hml, hA, hK, hNw⟩, hY, hE0⟩
  have hE := hE0
  clear hAe
  obtain ⟨H, hH⟩ : ∃ H, H = s.heap := ⟨_, rfl⟩
  rw [← hH] at hP ⊢
  have hS : va_S A s.heap H [] := by rw [hH]; exact va_S.rf
  have hS := hS
  refine lv_aload_n hx hb (qaa qpx 0 rfl) rfl (lv_at hl 0 rfl) ?_
  refine lv_iconst (v := 0) hx hb (qaa qpx 1 rfl) (by decide) ?_
  refine va_put (D := (dC, dI)) (ci := 4) (v := .int 0) (ty := .int) (C := RX4) (T := TX4) (N := 5) hx hb hts q9G tyX4 tyX4_ok nmX4 hown hK hP hD hS 0 rfl rfl 4 (by decide) (hts _ q7c) (fun _ h9 => h9) rfl (by decide +kernel) rfl rfl (nbq rfl) (qaa qpx 2 rfl) (fun H locs hP hD hS => ?_)
  have hP : va_P (dC, dI) vwCl (qVz a0 jbU jcK jhW jaE 0 a1 jbF jb5 jhS jeF jcI jcU jbM jbF cyB jcq jbU cyI jdC jcK cyI jfY) H := hP
  have hD : va_D A (qVz a0 jbU jcK jhW jaE 0 a1 jbF jb5 jhS jeF jcI jcU jbM jbF cyB jcq jbU cyI jdC jcK cyI jfY) := hD
  refine lv_aload_n hx hb (qaa qpx 3 rfl) rfl (lv_at hl 0 rfl) ?_
  refine lv_aload_n hx hb (qaa qpx 4 rfl) rfl (lv_at hl 1 rfl) ?_
  refine lv_iconst (v := 0) hx hb (qaa qpx 5 rfl) (by decide) ?_
  obtain ⟨hCc, hPc, hDc, hFc⟩ := qac (ws' := (qVz a0 jbU jcK jhW jaE 0 a1 jbF jb5 jhS jeF jcI jcU jbM jbF cyB jcq jbU cyI jdC jcK cyI jfY)) hP hD hS hA [0, 1, 2, 3, 4] (by decide +kernel) rfl
  refine va_callv (va_runV (As := [.ref a1, .int 0]) (rest := []) ⟨hx, hb, hml, hown, hts⟩ (qafi l dC dI cyB cyI cyJ cyP a0 a1 jbF jbU jcK H.size (jhW) (jaE) (jcI) jb5 jcq jhS jeF jcU jbM jdC jfY 0 0 hw) (cwV 2 hts gX4_readFrom_X4_readSum rfl rfl rfl (by decide +kernel) ⟨nbq rfl, nbq rfl⟩) ⟨qat qsO, va_recv (q := (RX4, TX4, 5)) hK hPc (ci := 4) (q0 := 0) rfl rfl, qbg qsO hPc hK hDc hNw hY hE hS hFc⟩ rfl rfl hl.1 rfl (lv_room (nbq rfl)) (qaa qpx 6 rfl) ⟨nbq rfl, nbq rfl⟩) hS (fun q _ h => hFc q h) hFc (fun u t H1 locs ht hvm hw hB hz1 hk1 hS => ?_)
  obtain ⟨x1, x2, x3, x4, f5, f6, x7⟩ := u
  obtain ⟨hP1, hK1, hD1⟩ := hB
  rw [ht] at hP1
  obtain ⟨hP, hD⟩ := qah (wr := []) (w1 := (qVz a0 jbU jcK jhW jaE x7 a1 jbF jb5 x1 x2 jcI x3 x4 jbF cyB jcq jbU cyI f5 jcK cyI f6)) (wn := (qVz a0 jbU jcK jhW jaE x7 a1 jbF jb5 x1 x2 jcI x3 x4 jbF cyB jcq jbU cyI f5 jcK cyI f6)) hP hD [0, 1, 2, 3, 4] [] hCc rfl (by decide +kernel) (by decide +kernel) rfl hk1 hFc hP1 hD1
  generalize H1 = H at hP hS ⊢
  refine lv_aload_n hx hb (qaa qpx 7 rfl) rfl (lv_at hl 1 rfl) ?_
  obtain ⟨hCc, hPc, hDc, hFc⟩ := qac (ws' := (qqZ a1 jbF jb5 x1 x2 jcI x3 x4 jbF cyB jcq)) hP hD hS hA [1, 2] (by decide +kernel) rfl
  refine va_callv (va_runV (As := []) (rest := []) ⟨hx, hb, hml, hown, hts⟩ (qaJf l dC dI cyB cyI cyJ cyP a1 jbF H.size (.int x2) (jcI) jb5 jcq x1 x3 x4 hw) (cwV 0 hts gX4_readFrom_X8_needsEnd rfl rfl rfl (by decide +kernel) ⟨nbq rfl, nbq rfl⟩) ⟨qab, va_recv (q := (RX8, TX8, 7)) hK hPc (ci := 8) (q0 := 0) rfl rfl, qae hPc hK hDc hNw⟩ rfl rfl hl.1 rfl (lv_room (nbq rfl)) (qaa qpx 8 rfl) ⟨nbq rfl, nbq rfl⟩) hS (fun q _ h => hFc q h) hFc (fun u t H1 locs ht hvm hw hB hz1 hk1 hS => ?_)
  obtain ⟨x8, x9, x10⟩ := u
  obtain ⟨hP1, hK1, hD1⟩ := hB
  rw [ht] at hP1
  obtain ⟨hP, hD⟩ := qad (wr := (qa90 a0 jbU jcK jhW jaE x7 jbU cyI f5 jcK cyI f6)) (w1 := (qqZ a1 jbF jb5 x8 x2 jcI x9 x10 jbF cyB jcq)) (wn := (qVz a0 jbU jcK jhW jaE x7 a1 jbF jb5 x8 x2 jcI x9 x10 jbF cyB jcq jbU cyI f5 jcK cyI f6)) hP hD [1, 2] [0, 3, 4] [0, 3, 4, 1, 2] hCc rfl (by decide +kernel) (by decide +kernel) (by decide +kernel) rfl hk1 hFc hP1 hD1
  generalize H1 = H at hP hS ⊢
  exact ((W.vret hx hb hr (fun t ht hW => ⟨⟨(x7, x8, x2, x9, x10, f5, f6), rfl, hw, by rw [ht]; exact hP, va_K.moved hW.alike hK, hD⟩, hS.F ht⟩) hS.2.2 (qaa qpx 9 rfl)))
theorem qpv : ∀ w ∈ u_ws RX10 TX10 19, w ∈ wsX10_law := uiM qvQ qyN (by decide +kernel)
theorem qaBW : ∀ w ∈ u_ws RX8 TX8 7, w ∈ wsX10_law := uiM qvQ euX8 (by decide +kernel)
theorem qMu : (.fieldLink RX10 10 "MarchHares" "tape" "LMarchHares$Tape;" : Cond) ∈ wsX10_law := qvQ 16 (by decide +kernel)
theorem qak2 : (.fieldLink RX10 120 "MarchHares$Tape" "fault" "I" : Cond) ∈ wsX10_law := qvQ 640 (by decide +kernel)
theorem qMS : (.fieldLink RX10 29 "MarchHares" "rule" "LMarchHares$Law;" : Cond) ∈ wsX10_law := qvQ 65 (by decide +kernel)
theorem qL4 : (.fieldLink RX10 33 "MarchHares" "spareRule" "LMarchHares$Law;" : Cond) ∈ wsX10_law := qvQ 66 (by decide +kernel)
theorem qarZ : (.fieldLink RX10 58 "MarchHares" "now" "LMarchHares$Days;" : Cond) ∈ wsX10_law := qvQ 79 (by decide +kernel)
set_option maxHeartbeats 4000000 in
set_option maxRecDepth 100000 in
theorem qaUm (l : Launch) (dC : Nat → ClassId) (dI : Nat → Nat → Nat) (cyB cyI cyJ cyP : ClassId) (a0 jaW jiN jf0 jlv jln jb6 jaT sz : Nat) (jfS ja1 jbV ja3 jbH jbO jaq jac jbI jbl jbn jba jaa jbA jmR jmM joq jbr jhD : Value) (ji4 : NI) (jbz jk4 jlW jll jj0 jlm jjE jnz : Int32) (jnJ jnA : NI) (jmF : Value) (p1 : Int32) {E : String → Int32 → Int32 → Int32 → Int32 → Int32 → Int32 → Int32 → Int32 → NI → NI → Value → Value → Value → Prop} {Q : Int32 → Int32 → Int32 → Int32 → Int32 → Int32 → Int32 → Int32 → Int32 → NI → NI → Value → Value → Value → Prop} (hw : q2T jb6 jiN ji4 jbz jk4 jlW jll jj0 jlm jjE jnz jnJ jnA (.ref jb6) (.ref jiN) jmF p1 E Q) : vx_Met l yX10_law wsX10_law ({ frames := 34, cells := 1, slots := 6, locals := 778 }) (va_Pc [.ref a0, .int p1] (cPs (zE) l (dC, dI) (kT cyB cyI cyJ cyP) (qK8 a0 jaW jfS ja1 jb6 jiN jbV ja3 jbH jaT jbO jaq jac jbI jbl jbn jba jaa jbA jbz jaW jf0 jk4 jlW jll jj0 jlm jjE jiN jlv jln jmR jmM jnz jf0 cyB ji4 jlv cyI jnJ jln cyI jnA jaT joq jbr jhD jmF) sz)) (va_Qi (fun (r : Int32) (u : Int32 × Int32 × Int32 × Int32 × Int32 × Int32 × Int32 × Int32 × NI × NI × Value × Value × Value) => Q r u.1 u.2.1 u.2.2.1 u.2.2.2.1 u.2.2.2.2.1 u.2.2.2.2.2.1 u.2.2.2.2.2.2.1 u.2.2.2.2.2.2.2.1 u.2.2.2.2.2.2.2.2.1 u.2.2.2.2.2.2.2.2.2.1 u.2.2.2.2.2.2.2.2.2.2.1 u.2.2.2.2.2.2.2.2.2.2.2.1 u.2.2.2.2.2.2.2.2.2.2.2.2) (cB (dC, dI) (kT cyB cyI cyJ cyP) (va_A (qK8 a0 jaW jfS ja1 jb6 jiN jbV ja3 jbH jaT jbO jaq jac jbI jbl jbn jba jaa jbA jbz jaW jf0 jk4 jlW jll jj0 jlm jjE jiN jlv jln jmR jmM jnz jf0 cyB ji4 jlv cyI jnJ jln cyI jnA jaT joq jbr jhD jmF) sz) (fun u : Int32 × Int32 × Int32 × Int32 × Int32 × Int32 × Int32 × Int32 × NI × NI × Value × Value × Value => ((qa03 a0 jaW jfS ja1 u.2.2.2.2.2.2.2.2.2.2.1 u.2.2.2.2.2.2.2.2.2.2.2.1 jbV ja3 jbH jaT jbO jaq jac jbI jbl jbn jba jaa jbA u.1 jaW jf0 u.2.1 u.2.2.1 u.2.2.2.1 u.2.2.2.2.1 u.2.2.2.2.2.1 u.2.2.2.2.2.2.1 jiN jlv jln jmR jmM u.2.2.2.2.2.2.2.1 jf0 cyB ji4 jlv cyI u.2.2.2.2.2.2.2.2.1 jln cyI u.2.2.2.2.2.2.2.2.2.1 jaT joq jbr jhD u.2.2.2.2.2.2.2.2.2.2.2.2) : va_W))) (va_A (qK8 a0 jaW jfS ja1 jb6 jiN jbV ja3 jbH jaT jbO jaq jac jbI jbl jbn jba jaa jbA jbz jaW jf0 jk4 jlW jll jj0 jlm jjE jiN jlv jln jmR jmM jnz jf0 cyB ji4 jlv cyI jnJ jln cyI jnA jaT joq jbr jhD jmF) sz)) (vx_X (fun _ => True) (fun (en : String) (u : Int32 × Int32 × Int32 × Int32 × Int32 × Int32 × Int32 × Int32 × NI × NI × Value × Value × Value) (t : State) => E en u.1 u.2.1 u.2.2.1 u.2.2.2.1 u.2.2.2.2.1 u.2.2.2.2.2.1 u.2.2.2.2.2.2.1 u.2.2.2.2.2.2.2.1 u.2.2.2.2.2.2.2.2.1 u.2.2.2.2.2.2.2.2.2.1 u.2.2.2.2.2.2.2.2.2.2.1 u.2.2.2.2.2.2.2.2.2.2.2.1 u.2.2.2.2.2.2.2.2.2.2.2.2 ∧ cB (dC, dI) (kT cyB cyI cyJ cyP) (va_A (qK8 a0 jaW jfS ja1 jb6 jiN jbV ja3 jbH jaT jbO jaq jac jbI jbl jbn jba jaa jbA jbz jaW jf0 jk4 jlW jll jj0 jlm jjE jiN jlv jln jmR jmM jnz jf0 cyB ji4 jlv cyI jnJ jln cyI jnA jaT joq jbr jhD jmF) sz) (fun u : Int32 × Int32 × Int32 × Int32 × Int32 × Int32 × Int32 × Int32 × NI × NI × Value × Value × Value => ((qa03 a0 jaW jfS ja1 u.2.2.2.2.2.2.2.2.2.2.1 u.2.2.2.2.2.2.2.2.2.2.2.1 jbV ja3 jbH jaT jbO jaq jac jbI jbl jbn jba jaa jbA u.1 jaW jf0 u.2.1 u.2.2.1 u.2.2.2.1 u.2.2.2.2.1 u.2.2.2.2.2.1 u.2.2.2.2.2.2.1 jiN jlv jln jmR jmM u.2.2.2.2.2.2.2.1 jf0 cyB ji4 jlv cyI u.2.2.2.2.2.2.2.2.1 jln cyI u.2.2.2.2.2.2.2.2.2.1 jaT joq jbr jhD u.2.2.2.2.2.2.2.2.2.2.2.2) : va_W)) u t) (va_A (qK8 a0 jaW jfS ja1 jb6 jiN jbV ja3 jbH jaT jbO jaq jac jbI jbl jbn jba jaa jbA jbz jaW jf0 jk4 jlW jll jj0 jlm jjE jiN jlv jln jmR jmM jnz jf0 cyB ji4 jlv cyI jnJ jln cyI jnA jaT joq jbr jhD jmF) sz)) 1 6 (va_A (qK8 a0 jaW jfS ja1 jb6 jiN jbV ja3 jbH jaT jbO jaq jac jbI jbl jbn jba jaa jbA jbz jaW jf0 jk4 jlW jll jj0 jlm jjE jiN jlv jln jmR jmM jnz jf0 cyB ji4 jlv cyI jnJ jln cyI jnA jaT joq jbr jhD jmF) sz) := by
  refine vx_ofW (cc := cX10_law) (maxL := 3) (ret := (some .int)) (by decide) rfl ?_
  intro p e s m args below meth c s₁ B hml hnt hv
  obtain ⟨rfl, ⟨hsz, hP, hK, hD0, hNw, hXl, hXu, hXn, hXt⟩, hE0⟩ := hv
  have hx := B.exec
  have hb := B.bytes
  have hr := B.returns
  have hts := atoms_spec (ws := wsX10_law) B.pre
  have hown : s.vm.findClass RX10 = some m.cls := findClass_of_methodNamed B.named
  have hlocks := B.notSynchronized
  subst hsz
  have hD := hD0.self (sz := s.heap.size)
  generalize hAe : va_A (qK8 a0 jaW jfS ja1 jb6 jiN jbV ja3 jbH jaT jbO jaq jac jbI jbl jbn jba jaa jbA jbz jaW jf0 jk4 jlW jll jj0 jlm jjE jiN jlv jln jmR jmM jnz jf0 cyB ji4 jlv cyI jnJ jln cyI jnA jaT joq jbr jhD jmF) s.heap.size = A at hD hXu hXn hE0 ⊢
  have hA : ∀ q : Nat, s.heap.size ≤ q → A q := fun q h => by rw [← hAe]; exact Or.inr h
  have hS : va_S A s.heap s.heap [] := va_S.rf
  have hP : va_P (dC, dI) vwCl (qK8 a0 jaW jfS ja1 jb6 jiN jbV ja3 jbH jaT jbO jaq jac jbI jbl jbn jba jaa jbA jbz jaW jf0 jk4 jlW jll jj0 jlm jjE jiN jlv jln jmR jmM jnz jf0 cyB ji4 jlv cyI jnJ jln cyI jnA jaT joq jbr jhD jmF) s.heap := hP
  have hl := lv_entry ([.ref a0, .int p1]) (n := 3) (nbq rfl)
  rw [lg_entry_eq]
  generalize (lg_sl ([.ref a0, .int p1]) ++ List.replicate (3 - (lg_sl ([.ref a0, .int p1])).length) Slot.unset).toArray = ls at hl ⊢
  have hl : lv_has ls 3 [(0, .ref a0), (1, .int p1)] := hl
  have hY : cfY l s A := ⟨hXl, hXu, hXn, hXt⟩
  have hE := hE0
  have hXs : cfX l s c A := ⟨hnt, hY⟩
  have C0 : cfx p s m _ meth c cX10_law (some .int) wsX10_law RX10 3 A (dC, dI) (kT cyB cyI cyJ cyP) ∧ cfX l s c A := ⟨⟨hx, hb, hr, hts, hown, hlocks, hml, hA, hK, hNw⟩, hXs⟩
  clear hAe
  obtain ⟨H, hH⟩ : ∃ H, H = s.heap := ⟨_, rfl⟩
  rw [← hH] at hP ⊢
  have hS : va_S A s.heap H [] := by rw [hH]; exact va_S.rf
  have hS := hS
  refine lv_aload_n hx hb (qaa qoD 0 rfl) rfl (lv_at hl 0 rfl) ?_
  refine lv_iload_n hx hb (qaa qoD 1 rfl) rfl (lv_at hl 1 rfl) ?_
  refine lv_sipush (v := 150) hx hb (qaa qoD 2 rfl) (by decide) ?_
  obtain ⟨hCc, hPc, hDc, hFc⟩ := qac (ws' := (qa6i a0 jaW jfS ja1 jb6 jiN jbV ja3 jbH jaT jbO jaq jac jbI jbl jbn jba jaa jbA jbz jaW jf0 jk4 jlW jll jj0 jlm jjE)) hP hD hS hA [0, 1] (by decide +kernel) rfl
  refine vx_callv (vx_runV (As := [.int p1, .int 150]) (rest := []) ⟨hx, hb, hml, hown, hts⟩ (qHR l dC dI cyB cyI cyJ cyP a0 jaW H.size (jfS) (ja1) (.ref jb6) (.ref jiN) (jbV) (ja3) (jbH) (.ref jaT) (jbO) (jaq) (jac) (jbI) (jbl) (jbn) (jba) (jaa) (jbA) (.ref jf0) jbz jk4 jlW jll jj0 jlm jjE p1 150 hw) (cwV 2 hts gX10_law_X10_openText rfl rfl rfl (by decide +kernel) ⟨nbq rfl, nbq rfl⟩) ⟨qav, va_recv (q := (RX10, TX10, 19)) hK hPc (ci := 10) (q0 := 0) rfl rfl, qbl hPc hK hDc hNw hY hS hFc⟩ rfl rfl hl.1 rfl (lv_room (nbq rfl)) (qaa qoD 3 rfl) ⟨nbq rfl, nbq rfl⟩) hS (fun q _ h => hFc q h) hFc (fun q _ h => hFc q h) (fun en ce q9 u t H1 locs ht hvm hpx hB hz1 hk1 hS hc9 hv9 hcl9 => ?_) (fun u t H1 locs ht hvm hw hB hz1 hk1 hS => ?_)
  · obtain ⟨x1, x2, x3, x4, x5, x6, x7⟩ := u
    obtain ⟨hw, hP1, hK1, hD1⟩ := hB
    rw [ht] at hP1
    obtain ⟨hP, hD⟩ := qad (wr := (qbey jiN jlv jln jmR jmM jnz jf0 cyB ji4 jlv cyI jnJ jln cyI jnA jaT joq jbr jhD jmF)) (w1 := (qa6i a0 jaW jfS ja1 jb6 jiN jbV ja3 jbH jaT jbO jaq jac jbI jbl jbn jba jaa jbA x1 jaW jf0 x2 x3 x4 x5 x6 x7)) (wn := (qK8 a0 jaW jfS ja1 jb6 jiN jbV ja3 jbH jaT jbO jaq jac jbI jbl jbn jba jaa jbA x1 jaW jf0 x2 x3 x4 x5 x6 x7 jiN jlv jln jmR jmM jnz jf0 cyB ji4 jlv cyI jnJ jln cyI jnA jaT joq jbr jhD jmF)) hP hD [0, 1] [2, 3, 4, 5, 6] [5, 6, 0, 1, 2, 3, 4] hCc rfl (by decide +kernel) (by decide +kernel) (by decide +kernel) rfl hk1 hFc hP1 hD1
    generalize H1 = H at hP hS hc9 ⊢
    exact vx_out (fun x hx9 => (hXs.1 x hx9).elim) hlocks hc9 hv9 hcl9 (fun t2 ht2 hal2 => ⟨(x1, x2, x3, x4, x5, x6, x7, jnz, jnJ, jnA, (.ref jb6), (.ref jiN), jmF), trivial, ⟨hw, by rw [ht2]; exact hP, va_K.moved hal2 hK, hD⟩, hS.F ht2⟩) hS.2.2 (nbq rfl) (nbq rfl)
  obtain ⟨x1, x2, x3, x4, x5, x6, x7⟩ := u
  obtain ⟨hP1, hK1, hD1⟩ := hB
  rw [ht] at hP1
  obtain ⟨hP, hD⟩ := qad (wr := (qbey jiN jlv jln jmR jmM jnz jf0 cyB ji4 jlv cyI jnJ jln cyI jnA jaT joq jbr jhD jmF)) (w1 := (qa6i a0 jaW jfS ja1 jb6 jiN jbV ja3 jbH jaT jbO jaq jac jbI jbl jbn jba jaa jbA x1 jaW jf0 x2 x3 x4 x5 x6 x7)) (wn := (qK8 a0 jaW jfS ja1 jb6 jiN jbV ja3 jbH jaT jbO jaq jac jbI jbl jbn jba jaa jbA x1 jaW jf0 x2 x3 x4 x5 x6 x7 jiN jlv jln jmR jmM jnz jf0 cyB ji4 jlv cyI jnJ jln cyI jnA jaT joq jbr jhD jmF)) hP hD [0, 1] [2, 3, 4, 5, 6] [5, 6, 0, 1, 2, 3, 4] hCc rfl (by decide +kernel) (by decide +kernel) (by decide +kernel) rfl hk1 hFc hP1 hD1
  generalize H1 = H at hP hS ⊢
  refine lv_aload_n hx hb (qaa qoD 4 rfl) rfl (lv_at hl 0 rfl) ?_
  refine va_get (D := (dC, dI)) (ci := 10) (v := .ref jiN) (C := RX10) (T := TX10) (N := 19) hx hb hts qpv hown hK hP 0 rfl rfl 4 (by decide) (hts _ qL4) (fun _ h9 => h9) rfl (qaa qoD 5 rfl) ?_
  refine lv_aload_n hx hb (qaa qoD 6 rfl) rfl (lv_at hl 0 rfl) ?_
  refine va_get (D := (dC, dI)) (ci := 10) (v := .ref jaW) (C := RX10) (T := TX10) (N := 19) hx hb hts qpv hown hK hP 0 rfl rfl 0 (by decide) (hts _ qMu) (fun _ h9 => h9) rfl (qaa qoD 7 rfl) ?_
  obtain ⟨hCc, hPc, hDc, hFc⟩ := qac (ws' := (qbeq jiN jlv jln jmR jmM jnz jaW jf0 x2 x3 x4 x5 x6 x7 jf0 cyB ji4 jlv cyI jnJ jln cyI jnA)) hP hD hS hA [2, 1, 3, 4, 5] (by decide +kernel) rfl
  refine va_callv (va_runV (As := [.ref jaW]) (rest := []) ⟨hx, hb, hml, hown, hts⟩ (qasu l dC dI cyB cyI cyJ cyP jiN jaW jf0 jlv jln H.size (jmR) (jmM) (.int x5) x2 ji4 jnz x3 x4 x6 x7 jnJ jnA hw) (cwV 1 hts gX10_law_X4_readFrom rfl rfl rfl (by decide +kernel) ⟨nbq rfl, nbq rfl⟩) ⟨qat qsO, va_recv (q := (RX4, TX4, 5)) hK hPc (ci := 4) (q0 := 0) rfl rfl, qbg qsO hPc hK hDc hNw hY hE hS hFc⟩ rfl rfl hl.1 rfl (lv_room (nbq rfl)) (qaa qoD 8 rfl) ⟨nbq rfl, nbq rfl⟩) hS (fun q _ h => hFc q h) hFc (fun u t H1 locs ht hvm hw hB hz1 hk1 hS => ?_)
  obtain ⟨x8, x9, x10, x11, x12, f13, f14⟩ := u
  obtain ⟨hP1, hK1, hD1⟩ := hB
  rw [ht] at hP1
  obtain ⟨hP, hD⟩ := qad (wr := [(a0, .inr (10, [.ref jaW, jfS, ja1, .ref jb6, .ref jiN, jbV, ja3, jbH, .ref jaT, jbO, jaq, jac, jbI, jbl, jbn, jba, jaa, jbA, .int x1])), (jaT, .inr (1, [joq, jbr, jhD, jmF]))]) (w1 := (qbeq jiN jlv jln jmR jmM x8 jaW jf0 x2 x9 x10 x5 x11 x12 jf0 cyB ji4 jlv cyI f13 jln cyI f14)) (wn := (qK8 a0 jaW jfS ja1 jb6 jiN jbV ja3 jbH jaT jbO jaq jac jbI jbl jbn jba jaa jbA x1 jaW jf0 x2 x9 x10 x5 x11 x12 jiN jlv jln jmR jmM x8 jf0 cyB ji4 jlv cyI f13 jln cyI f14 jaT joq jbr jhD jmF)) hP hD [2, 1, 3, 4, 5] [0, 6] [0, 3, 2, 4, 5, 6, 1] hCc rfl (by decide +kernel) (by decide +kernel) (by decide +kernel) rfl hk1 hFc hP1 hD1
  generalize H1 = H at hP hS ⊢
  refine lv_aload_n hx hb (qaa qoD 9 rfl) rfl (lv_at hl 0 rfl) ?_
  refine va_get (D := (dC, dI)) (ci := 10) (v := .ref jaW) (C := RX10) (T := TX10) (N := 19) hx hb hts qpv hown hK hP 0 rfl rfl 0 (by decide) (hts _ qMu) (fun _ h9 => h9) rfl (qaa qoD 10 rfl) ?_
  obtain ⟨hCc, hPc, hDc, hFc⟩ := qac (ws' := (qa1i jaW jf0 x2 x9 x10 x5 x11 x12)) hP hD hS hA [1] (by decide +kernel) rfl
  refine va_calli (va_runV (As := []) (rest := []) ⟨hx, hb, hml, hown, hts⟩ (qkj l dC dI cyB cyI cyJ cyP jaW H.size (.ref jf0) (.int x2) (.int x9) (.int x10) (.int x5) (.int x12) x11 hw) (cwV 0 hts gX10_law_X8_isFaulty rfl rfl rfl (by decide +kernel) ⟨nbq rfl, nbq rfl⟩) ⟨qab, va_recv (q := (RX8, TX8, 7)) hK hPc (ci := 8) (q0 := 0) rfl rfl, qae hPc hK hDc hNw⟩ rfl rfl hl.1 rfl (lv_room (nbq rfl)) (qaa qoD 11 rfl) ⟨nbq rfl, nbq rfl⟩) hS (fun q _ h => hFc q h) hFc (fun r15 u t H1 locs ht hvm hw hB hz1 hk1 hS => ?_)
  obtain ⟨hP1, hK1, hD1⟩ := hB
  rw [ht] at hP1
  obtain ⟨hP, hD⟩ := qad (wr := [(a0, .inr (10, [.ref jaW, jfS, ja1, .ref jb6, .ref jiN, jbV, ja3, jbH, .ref jaT, jbO, jaq, jac, jbI, jbl, jbn, jba, jaa, jbA, .int x1])), (jiN, .inr (4, [.ref jlv, .ref jln, jmR, jmM, .int x8])), (jf0, .inl (cyB, 600, .inl ji4)), (jlv, .inl (cyI, 150, .inl f13)), (jln, .inl (cyI, 150, .inl f14)), (jaT, .inr (1, [joq, jbr, jhD, jmF]))]) (w1 := (qa1i jaW jf0 x2 x9 x10 x5 x11 x12)) (wn := (qK8 a0 jaW jfS ja1 jb6 jiN jbV ja3 jbH jaT jbO jaq jac jbI jbl jbn jba jaa jbA x1 jaW jf0 x2 x9 x10 x5 x11 x12 jiN jlv jln jmR jmM x8 jf0 cyB ji4 jlv cyI f13 jln cyI f14 jaT joq jbr jhD jmF)) hP hD [1] [0, 2, 3, 4, 5, 6] [0, 6, 1, 2, 3, 4, 5] hCc rfl (by decide +kernel) (by decide +kernel) (by decide +kernel) rfl hk1 hFc hP1 hD1
  generalize H1 = H at hP hS ⊢
  refine lv_if_eq (tgt := 40) hx hb (qaa qoD 12 rfl) (by decide) (fun c16 => ?_) (fun c16 => ?_)
  · have hw := hw.1 c16
    refine lv_aload_n hx hb (qaa qlT 3 rfl) rfl (lv_at hl 0 rfl) ?_
    refine va_get (D := (dC, dI)) (ci := 10) (v := .ref jb6) (C := RX10) (T := TX10) (N := 19) hx hb hts qpv hown hK hP 0 rfl rfl 3 (by decide) (hts _ qMS) (fun _ h9 => h9) rfl (qaa qlT 4 rfl) ?_
    refine lv_astore_n (lv' := [(2, .ref jb6), (0, .ref a0), (1, .int p1)]) hx hb (qaa qlT 5 rfl) rfl hl (by decide) rfl (fun ls hl => ?_)
    refine lv_aload_n hx hb (qaa qlT 6 rfl) rfl (lv_at hl 1 rfl) ?_
    refine lv_aload_n hx hb (qaa qlT 7 rfl) rfl (lv_at hl 1 rfl) ?_
    refine va_get (D := (dC, dI)) (ci := 10) (v := .ref jiN) (C := RX10) (T := TX10) (N := 19) hx hb hts qpv hown hK hP 0 rfl rfl 4 (by decide) (hts _ qL4) (fun _ h9 => h9) rfl (qaa qlT 8 rfl) ?_
    refine va_put (D := (dC, dI)) (ci := 10) (v := .ref jiN) (ty := .object "MarchHares$Law") (C := RX10) (T := TX10) (N := 19) hx hb hts qpv tyX10 tyX10_ok nmX10 hown hK hP hD hS 0 rfl rfl 3 (by decide) (hts _ qMS) (fun _ h9 => h9) rfl (by decide +kernel) rfl rfl (nbq rfl) (qaa qlT 9 rfl) (fun H locs hP hD hS => ?_)
    have hP : va_P (dC, dI) vwCl (qK8 a0 jaW jfS ja1 jiN jiN jbV ja3 jbH jaT jbO jaq jac jbI jbl jbn jba jaa jbA x1 jaW jf0 x2 x9 x10 x5 x11 x12 jiN jlv jln jmR jmM x8 jf0 cyB ji4 jlv cyI f13 jln cyI f14 jaT joq jbr jhD jmF) H := hP
    have hD : va_D A (qK8 a0 jaW jfS ja1 jiN jiN jbV ja3 jbH jaT jbO jaq jac jbI jbl jbn jba jaa jbA x1 jaW jf0 x2 x9 x10 x5 x11 x12 jiN jlv jln jmR jmM x8 jf0 cyB ji4 jlv cyI f13 jln cyI f14 jaT joq jbr jhD jmF) := hD
    refine lv_aload_n hx hb (qaa qlT 10 rfl) rfl (lv_at hl 1 rfl) ?_
    refine lv_aload_n hx hb (qaa qlT 11 rfl) rfl (lv_at hl 0 rfl) ?_
    refine va_put (D := (dC, dI)) (ci := 10) (v := .ref jb6) (ty := .object "MarchHares$Law") (C := RX10) (T := TX10) (N := 19) hx hb hts qpv tyX10 tyX10_ok nmX10 hown hK hP hD hS 0 rfl rfl 4 (by decide) (hts _ qL4) (fun _ h9 => h9) rfl (by decide +kernel) rfl rfl (nbq rfl) (qaa qlT 12 rfl) (fun H locs hP hD hS => ?_)
    have hP : va_P (dC, dI) vwCl (qK8 a0 jaW jfS ja1 jiN jb6 jbV ja3 jbH jaT jbO jaq jac jbI jbl jbn jba jaa jbA x1 jaW jf0 x2 x9 x10 x5 x11 x12 jiN jlv jln jmR jmM x8 jf0 cyB ji4 jlv cyI f13 jln cyI f14 jaT joq jbr jhD jmF) H := hP
    have hD : va_D A (qK8 a0 jaW jfS ja1 jiN jb6 jbV ja3 jbH jaT jbO jaq jac jbI jbl jbn jba jaa jbA x1 jaW jf0 x2 x9 x10 x5 x11 x12 jiN jlv jln jmR jmM x8 jf0 cyB ji4 jlv cyI f13 jln cyI f14 jaT joq jbr jhD jmF) := hD
    refine lv_aload_n hx hb (qaa qlT 13 rfl) rfl (lv_at hl 1 rfl) ?_
    refine va_get (D := (dC, dI)) (ci := 10) (v := .ref jaT) (C := RX10) (T := TX10) (N := 19) hx hb hts qpv hown hK hP 0 rfl rfl 8 (by decide) (hts _ qarZ) (fun _ h9 => h9) rfl (qaa qlT 14 rfl) ?_
    refine lv_aload_n hx hb (qaa qlT 15 rfl) rfl (lv_at hl 1 rfl) ?_
    refine va_get (D := (dC, dI)) (ci := 10) (v := .ref jiN) (C := RX10) (T := TX10) (N := 19) hx hb hts qpv hown hK hP 0 rfl rfl 3 (by decide) (hts _ qMS) (fun _ h9 => h9) rfl (qaa qOb 0 rfl) ?_
    obtain ⟨hCc, hPc, hDc, hFc⟩ := qac (ws' := (qbkL jaT joq jbr jhD jmF)) hP hD hS hA [6] (by decide +kernel) rfl
    refine va_callv (va_runV (As := [.ref jiN]) (rest := []) ⟨hx, hb, hml, hown, hts⟩ (qa1Q l dC dI cyB cyI cyJ cyP jaT jiN H.size (joq) (jbr) (jhD) (jmF) hw) (cwV 1 hts gX10_law_X1_obey rfl rfl rfl (by decide +kernel) ⟨nbq rfl, nbq rfl⟩) ⟨qab, va_recv (q := (RX1, TX1, 4)) hK hPc (ci := 1) (q0 := 0) rfl rfl, qae hPc hK hDc hNw⟩ rfl rfl hl.1 rfl (lv_room (nbq rfl)) (qaa qOb 1 rfl) ⟨nbq rfl, nbq rfl⟩) hS (fun q _ h => hFc q h) hFc (fun u t H1 locs ht hvm hw hB hz1 hk1 hS => ?_)
    obtain ⟨hP1, hK1, hD1⟩ := hB
    rw [ht] at hP1
    obtain ⟨hP, hD⟩ := qah (wr := [(a0, .inr (10, [.ref jaW, jfS, ja1, .ref jiN, .ref jb6, jbV, ja3, jbH, .ref jaT, jbO, jaq, jac, jbI, jbl, jbn, jba, jaa, jbA, .int x1])), (jaW, .inr (8, [.ref jf0, .int x2, .int x9, .int x10, .int x5, .int x11, .int x12])), (jiN, .inr (4, [.ref jlv, .ref jln, jmR, jmM, .int x8])), (jf0, .inl (cyB, 600, .inl ji4)), (jlv, .inl (cyI, 150, .inl f13)), (jln, .inl (cyI, 150, .inl f14))]) (w1 := [(jaT, .inr (1, [joq, jbr, jhD, .ref jiN]))]) (wn := (qbgi a0 jaW jfS ja1 jiN jb6 jbV ja3 jbH jaT jbO jaq jac jbI jbl jbn jba jaa jbA x1 jaW jf0 x2 x9 x10 x5 x11 x12 jiN jlv jln jmR jmM x8 jf0 cyB ji4 jlv cyI f13 jln cyI f14 jaT joq jbr jhD jiN)) hP hD [6] [0, 1, 2, 3, 4, 5] hCc rfl (by decide +kernel) (by decide +kernel) rfl hk1 hFc hP1 hD1
    generalize H1 = H at hP hS ⊢
    refine lv_iconst (v := 1) hx hb (qaa qOb 2 rfl) (by decide) ?_
    exact vx_ret (W.widen (k := 1) (n := 6) (nbq rfl) (nbq rfl) (W.iret (v := 1) hx hb hr (fun t ht hW => ⟨⟨1, (x1, x2, x9, x10, x5, x11, x12, x8, f13, f14, (.ref jiN), (.ref jb6), (.ref jiN)), rfl, hw, by rw [ht]; exact hP, va_K.moved hW.alike hK, hD⟩, hS.F ht⟩) hS.2.2 (qaa qOb 3 rfl)))
  · have hw := hw.2 c16
    refine lv_aload_n hx hb (qaa qoD 13 rfl) rfl (lv_at hl 0 rfl) ?_
    refine va_get (D := (dC, dI)) (ci := 10) (v := .ref jaW) (C := RX10) (T := TX10) (N := 19) hx hb hts qpv hown hK hP 0 rfl rfl 0 (by decide) (hts _ qMu) (fun _ h9 => h9) rfl (qaa qoD 14 rfl) ?_
    refine va_get (D := (dC, dI)) (ci := 8) (v := .int x11) (C := RX8) (T := TX8) (N := 7) hx hb hts qaBW hown hK hP 1 rfl rfl 5 (by decide) (hts _ qak2) (fun _ h9 => h9) rfl (qaa qoD 15 rfl) ?_
    refine lv_bipush (v := 10) hx hb (qaa qlT 0 rfl) (by decide) ?_
    refine lv_isub hx hb (qaa qlT 1 rfl) ?_
    exact vx_ret (W.widen (k := 1) (n := 6) (nbq rfl) (nbq rfl) (W.iret (v := (x11 - 10)) hx hb hr (fun t ht hW => ⟨⟨(x11 - 10), (x1, x2, x9, x10, x5, x11, x12, x8, f13, f14, (.ref jb6), (.ref jiN), jmF), rfl, hw, by rw [ht]; exact hP, va_K.moved hW.alike hK, hD⟩, hS.F ht⟩) hS.2.2 (qaa qlT 2 rfl)))
theorem qaAc : (.classLink RL 13 "java/lang/IllegalArgumentException" : Cond) ∈ wsL_law := qaM8 595 (by decide +kernel)
theorem qaMP : (.codeWith yL_law cL_law 4 (some .int) [(0, 9, 12, 13)] : Cond) ∈ wsL_law := qaM8 1344 (by decide +kernel)
set_option maxHeartbeats 4000000 in
set_option maxRecDepth 100000 in
theorem qa1X (l : Launch) (dC : Nat → ClassId) (dI : Nat → Nat → Nat) (cyB cyI cyJ cyP : ClassId) (a0 a2 jaW jiN jf0 jlv jln jaT jb6 sz : Nat) (jfS ja1 jbV ja3 jbH jbO jaq jac jbI jbl jbn jba jaa jbA jmR jmM joq jbr jhD : Value) (n2 : Nat) (ji4 : NI) (jbz jk4 jlW jll jj0 jlm jjE jnz : Int32) (jnJ jnA : NI) (jmF : Value) (f2 : Nat → Int64) (p1 : Int32) {Q : Int32 → Int32 → Int32 → Int32 → Int32 → Int32 → Int32 → Int32 → Int32 → NI → NI → Value → Value → Value → (Nat → Int64) → Prop} (hw : qaMa jb6 jiN n2 ji4 jbz jk4 jlW jll jj0 jlm jjE jnz jnJ jnA (.ref jb6) (.ref jiN) jmF f2 p1 Q) : Met l yL_law wsL_law ({ frames := 35, cells := 1, slots := 6, locals := 800 }) (va_Pc [.ref a0, .int p1, .ref a2] (cPs (zE) l (dC, dI) (kT cyB cyI cyJ cyP) (qamL a0 jaW jfS ja1 jb6 jiN jbV ja3 jbH jaT jbO jaq jac jbI jbl jbn jba jaa jbA jbz jaW jf0 jk4 jlW jll jj0 jlm jjE jiN jlv jln jmR jmM jnz jf0 cyB ji4 jlv cyI jnJ jln cyI jnA jaT joq jbr jhD jmF a2 cyJ n2 f2) sz)) (va_Qi (fun (r : Int32) (u : Int32 × Int32 × Int32 × Int32 × Int32 × Int32 × Int32 × Int32 × NI × NI × Value × Value × Value × (Nat → Int64)) => Q r u.1 u.2.1 u.2.2.1 u.2.2.2.1 u.2.2.2.2.1 u.2.2.2.2.2.1 u.2.2.2.2.2.2.1 u.2.2.2.2.2.2.2.1 u.2.2.2.2.2.2.2.2.1 u.2.2.2.2.2.2.2.2.2.1 u.2.2.2.2.2.2.2.2.2.2.1 u.2.2.2.2.2.2.2.2.2.2.2.1 u.2.2.2.2.2.2.2.2.2.2.2.2.1 u.2.2.2.2.2.2.2.2.2.2.2.2.2) (cB (dC, dI) (kT cyB cyI cyJ cyP) (va_A (qamL a0 jaW jfS ja1 jb6 jiN jbV ja3 jbH jaT jbO jaq jac jbI jbl jbn jba jaa jbA jbz jaW jf0 jk4 jlW jll jj0 jlm jjE jiN jlv jln jmR jmM jnz jf0 cyB ji4 jlv cyI jnJ jln cyI jnA jaT joq jbr jhD jmF a2 cyJ n2 f2) sz) (fun u : Int32 × Int32 × Int32 × Int32 × Int32 × Int32 × Int32 × Int32 × NI × NI × Value × Value × Value × (Nat → Int64) => ((qalL a0 jaW jfS ja1 u.2.2.2.2.2.2.2.2.2.2.1 u.2.2.2.2.2.2.2.2.2.2.2.1 jbV ja3 jbH jaT jbO jaq jac jbI jbl jbn jba jaa jbA u.1 jaW jf0 u.2.1 u.2.2.1 u.2.2.2.1 u.2.2.2.2.1 u.2.2.2.2.2.1 u.2.2.2.2.2.2.1 jiN jlv jln jmR jmM u.2.2.2.2.2.2.2.1 jf0 cyB ji4 jlv cyI u.2.2.2.2.2.2.2.2.1 jln cyI u.2.2.2.2.2.2.2.2.2.1 jaT joq jbr jhD u.2.2.2.2.2.2.2.2.2.2.2.2.1 a2 cyJ n2 u.2.2.2.2.2.2.2.2.2.2.2.2.2) : va_W))) (va_A (qamL a0 jaW jfS ja1 jb6 jiN jbV ja3 jbH jaT jbO jaq jac jbI jbl jbn jba jaa jbA jbz jaW jf0 jk4 jlW jll jj0 jlm jjE jiN jlv jln jmR jmM jnz jf0 cyB ji4 jlv cyI jnJ jln cyI jnA jaT joq jbr jhD jmF a2 cyJ n2 f2) sz)) 1 6 (va_A (qamL a0 jaW jfS ja1 jb6 jiN jbV ja3 jbH jaT jbO jaq jac jbI jbl jbn jba jaa jbA jbz jaW jf0 jk4 jlW jll jj0 jlm jjE jiN jlv jln jmR jmM jnz jf0 cyB ji4 jlv cyI jnJ jln cyI jnA jaT joq jbr jhD jmF a2 cyJ n2 f2) sz) := by
  refine va_MetW (cc := cL_law) (maxL := 4) (ret := (some .int)) (by decide) rfl ?_
  intro p e s m args below meth c s₁ B hml hv
  obtain ⟨rfl, ⟨hsz, hP, hK, hD0, hNw, hXl, hXu, hXn, hXt⟩, hE0⟩ := hv
  have hx := B.exec
  have hb := B.bytes
  have hr := B.returns
  have hts := atoms_spec (ws := wsL_law) B.pre
  have hown : s.vm.findClass RL = some m.cls := findClass_of_methodNamed B.named
  have hlocks := B.notSynchronized
  subst hsz
  have hD := hD0.self (sz := s.heap.size)
  generalize hAe : va_A (qamL a0 jaW jfS ja1 jb6 jiN jbV ja3 jbH jaT jbO jaq jac jbI jbl jbn jba jaa jbA jbz jaW jf0 jk4 jlW jll jj0 jlm jjE jiN jlv jln jmR jmM jnz jf0 cyB ji4 jlv cyI jnJ jln cyI jnA jaT joq jbr jhD jmF a2 cyJ n2 f2) s.heap.size = A at hD hXu hXn hE0 ⊢
  have hA : ∀ q : Nat, s.heap.size ≤ q → A q := fun q h => by rw [← hAe]; exact Or.inr h
  have hS : va_S A s.heap s.heap [] := va_S.rf
  have hP : va_P (dC, dI) vwCl (qamL a0 jaW jfS ja1 jb6 jiN jbV ja3 jbH jaT jbO jaq jac jbI jbl jbn jba jaa jbA jbz jaW jf0 jk4 jlW jll jj0 jlm jjE jiN jlv jln jmR jmM jnz jf0 cyB ji4 jlv cyI jnJ jln cyI jnA jaT joq jbr jhD jmF a2 cyJ n2 f2) s.heap := hP
  have hl := lv_entry ([.ref a0, .int p1, .ref a2]) (n := 4) (nbq rfl)
  rw [lg_entry_eq]
  generalize (lg_sl ([.ref a0, .int p1, .ref a2]) ++ List.replicate (4 - (lg_sl ([.ref a0, .int p1, .ref a2])).length) Slot.unset).toArray = ls at hl ⊢
  have hl : lv_has ls 4 [(0, .ref a0), (1, .int p1), (2, .ref a2)] := hl
  have hY : cfY l s A := ⟨hXl, hXu, hXn, hXt⟩
  have hE := hE0
  have hTb := vx_table (x := yL_law) B (hts _ qaMP)
  clear hAe
  obtain ⟨H, hH⟩ : ∃ H, H = s.heap := ⟨_, rfl⟩
  rw [← hH] at hP ⊢
  have hS : va_S A s.heap H [] := by rw [hH]; exact va_S.rf
  have hS := hS
  refine lv_aload_n hx hb (qaa qvE 0 rfl) rfl (lv_at hl 2 rfl) ?_
  refine lv_iconst (v := 0) hx hb (qaa qvE 1 rfl) (by decide) ?_
  refine lv_aload_n hx hb (qaa qvE 2 rfl) rfl (lv_at hl 0 rfl) ?_
  refine lv_iload_n hx hb (qaa qvE 3 rfl) rfl (lv_at hl 1 rfl) ?_
  obtain ⟨hCc, hPc, hDc, hFc⟩ := qac (ws' := (qK8 a0 jaW jfS ja1 jb6 jiN jbV ja3 jbH jaT jbO jaq jac jbI jbl jbn jba jaa jbA jbz jaW jf0 jk4 jlW jll jj0 jlm jjE jiN jlv jln jmR jmM jnz jf0 cyB ji4 jlv cyI jnJ jln cyI jnA jaT joq jbr jhD jmF)) hP hD hS hA [0, 1, 2, 3, 4, 5, 6] (by decide +kernel) rfl
  refine vx_calli (vx_runV (As := [.int p1]) (rest := [.int 0, .ref a2]) ⟨hx, hb, hml, hown, hts⟩ (qaUm l dC dI cyB cyI cyJ cyP a0 jaW jiN jf0 jlv jln jb6 jaT H.size (jfS) (ja1) (jbV) (ja3) (jbH) (jbO) (jaq) (jac) (jbI) (jbl) (jbn) (jba) (jaa) (jbA) (jmR) (jmM) (joq) (jbr) (jhD) ji4 jbz jk4 jlW jll jj0 jlm jjE jnz jnJ jnA jmF p1 hw) (cwV 1 hts gL_law_X10_law rfl rfl rfl (by decide +kernel) ⟨nbq rfl, nbq rfl⟩) ⟨qat qsO, va_recv (q := (RX10, TX10, 19)) hK hPc (ci := 10) (q0 := 0) rfl rfl, qbg qsO hPc hK hDc hNw hY hE hS hFc⟩ rfl rfl hl.1 rfl (lv_room (nbq rfl)) (qaa qvE 4 rfl) ⟨nbq rfl, nbq rfl⟩) hS (fun q _ h => hFc q h) hFc (fun q _ h => hFc q h) (fun en ce qx9 u t H1 locs ht hvm hpx hB hz1 hk1 hS hc9 hv9 hcl9 => ?_) (fun r14 u t H1 locs ht hvm hw hB hz1 hk1 hS => ?_)
  · obtain ⟨x1, x2, x3, x4, x5, x6, x7, x8, f9, f10, q11, q12, q13⟩ := u
    obtain ⟨hw, hP1, hK1, hD1⟩ := hB
    rw [ht] at hP1
    obtain ⟨hP, hD⟩ := qad (wr := [(a2, .inl (cyJ, n2, .inr (.inl f2)))]) (w1 := (qa03 a0 jaW jfS ja1 q11 q12 jbV ja3 jbH jaT jbO jaq jac jbI jbl jbn jba jaa jbA x1 jaW jf0 x2 x3 x4 x5 x6 x7 jiN jlv jln jmR jmM x8 jf0 cyB ji4 jlv cyI f9 jln cyI f10 jaT joq jbr jhD q13)) (wn := (qalL a0 jaW jfS ja1 q11 q12 jbV ja3 jbH jaT jbO jaq jac jbI jbl jbn jba jaa jbA x1 jaW jf0 x2 x3 x4 x5 x6 x7 jiN jlv jln jmR jmM x8 jf0 cyB ji4 jlv cyI f9 jln cyI f10 jaT joq jbr jhD q13 a2 cyJ n2 f2)) hP hD [0, 1, 2, 3, 4, 5, 6] [7] [1, 2, 3, 4, 5, 6, 7, 0] hCc rfl (by decide +kernel) (by decide +kernel) (by decide +kernel) rfl hk1 hFc hP1 hD1
    generalize H1 = H at hP hS hc9 ⊢
    obtain ⟨rfl, hw⟩ := hw
    refine vx_catch (own := RL) (name := "java/lang/IllegalArgumentException") hown [] ⟨0, 9, 12, 13⟩ [] (hTb.trans rfl) (fun z hz => nomatch hz) (by decide) (by decide) (hts _ qaAc) (va_Nw.use rfl (hY.2.2.2.1.2 _ (List.mem_of_getElem? (i := 0) rfl))) hc9 hv9 hcl9 ?_
    refine lv_astore_n (lv' := [(3, .ref qx9), (0, .ref a0), (1, .int p1), (2, .ref a2)]) hx hb (qaa qvE 8 rfl) rfl hl (by decide) rfl (fun ls hl => ?_)
    refine lv_iconst (v := 1) hx hb (qaa qvE 9 rfl) (by decide) ?_
    exact (W.widen (k := 1) (n := 6) (nbq rfl) (nbq rfl) (W.iret (v := 1) hx hb hr (fun t ht hW => ⟨⟨1, (x1, x2, x3, x4, x5, x6, x7, x8, f9, f10, q11, q12, q13, f2), rfl, hw, by rw [ht]; exact hP, va_K.moved hW.alike hK, hD⟩, hS.F ht⟩) hS.2.2 (qaa qvE 10 rfl)))
  obtain ⟨x1, x2, x3, x4, x5, x6, x7, x8, f9, f10, q11, q12, q13⟩ := u
  obtain ⟨hP1, hK1, hD1⟩ := hB
  rw [ht] at hP1
  obtain ⟨hP, hD⟩ := va_join (wr := [(a2, .inl (cyJ, n2, .inr (.inl f2)))]) (w1 := (qa03 a0 jaW jfS ja1 q11 q12 jbV ja3 jbH jaT jbO jaq jac jbI jbl jbn jba jaa jbA x1 jaW jf0 x2 x3 x4 x5 x6 x7 jiN jlv jln jmR jmM x8 jf0 cyB ji4 jlv cyI f9 jln cyI f10 jaT joq jbr jhD q13)) hP hD [0, 1, 2, 3, 4, 5, 6] [7] rfl rfl (by decide) (by decide) hk1 hFc hP1 hD1
  have hP : va_P (dC, dI) vwCl (qalL a0 jaW jfS ja1 q11 q12 jbV ja3 jbH jaT jbO jaq jac jbI jbl jbn jba jaa jbA x1 jaW jf0 x2 x3 x4 x5 x6 x7 jiN jlv jln jmR jmM x8 jf0 cyB ji4 jlv cyI f9 jln cyI f10 jaT joq jbr jhD q13 a2 cyJ n2 f2) H1 := hP.sub [1, 2, 3, 4, 5, 6, 7, 0] rfl
  have hD : va_D A (qalL a0 jaW jfS ja1 q11 q12 jbV ja3 jbH jaT jbO jaq jac jbI jbl jbn jba jaa jbA x1 jaW jf0 x2 x3 x4 x5 x6 x7 jiN jlv jln jmR jmM x8 jf0 cyB ji4 jlv cyI f9 jln cyI f10 jaT joq jbr jhD q13 a2 cyJ n2 f2) := hD.sub [1, 2, 3, 4, 5, 6, 7, 0] (by decide) rfl
  generalize H1 = H at hP hS ⊢
  refine lv_i2l (v := r14.toInt64) hx hb (qaa qvE 5 rfl) rfl ?_
  refine lv_topl (fun x15 ex15 => ?_)
  have hw := hw x15 ex15
  obtain ⟨hi9, hw⟩ := hw
  refine va_last hx hb hK hP hD hS 7 2 rfl rfl hi9 (qaa qvE 6 rfl) (fun H locs hP hD hS => ?_)
  obtain ⟨f16, ef16⟩ : ∃ y : Nat → Int64, y = vp_updL f2 (0 : Int32).toNatClampNeg x15 := ⟨_, rfl⟩
  have hw := hw f16 ef16
  have hP : va_P (dC, dI) vwCl (qalL a0 jaW jfS ja1 q11 q12 jbV ja3 jbH jaT jbO jaq jac jbI jbl jbn jba jaa jbA x1 jaW jf0 x2 x3 x4 x5 x6 x7 jiN jlv jln jmR jmM x8 jf0 cyB ji4 jlv cyI f9 jln cyI f10 jaT joq jbr jhD q13 a2 cyJ n2 f16) H := by rw [ef16]; exact hP
  have hD : va_D A (qalL a0 jaW jfS ja1 q11 q12 jbV ja3 jbH jaT jbO jaq jac jbI jbl jbn jba jaa jbA x1 jaW jf0 x2 x3 x4 x5 x6 x7 jiN jlv jln jmR jmM x8 jf0 cyB ji4 jlv cyI f9 jln cyI f10 jaT joq jbr jhD q13 a2 cyJ n2 f16) := by rw [ef16]; exact hD
  refine lv_goto (tgt := 15) hx hb (qaa qvE 7 rfl) (by decide) ?_
  refine lv_iconst (v := 0) hx hb (qaa qvE 11 rfl) (by decide) ?_
  exact (W.widen (k := 1) (n := 6) (nbq rfl) (nbq rfl) (W.iret (v := 0) hx hb hr (fun t ht hW => ⟨⟨0, (x1, x2, x3, x4, x5, x6, x7, x8, f9, f10, q11, q12, q13, f16), rfl, hw, by rw [ht]; exact hP, va_K.moved hW.alike hK, hD⟩, hS.F ht⟩) hS.2.2 (qaa qvE 12 rfl)))
set_option maxHeartbeats 4000000 in
set_option maxRecDepth 100000 in
theorem qadA (l : Launch) (dC : Nat → ClassId) (dI : Nat → Nat → Nat) (cyB cyI cyJ cyP : ClassId) (a0 a1 jbF jkT jjQ jjU jla jjy jha jhj sz : Nat) (jjT jkk jcI : Value) (jb5 : Int32) (jcq : NI) (jhS jeF jcU jbM : Int32) (jl3 jlB jlx : NI) (jbw : Int32) (jms jlq : NI) (jaC : Int32) (jiS jiP : NI) (jaN p2 : Int32) {Q : Int32 → Int32 → Int32 → Int32 → NI → NI → NI → Int32 → NI → NI → Int32 → NI → NI → Int32 → Prop} (hw : qIz jb5 jcq jhS jeF jcU jbM jl3 jlB jlx jbw jms jlq jaC jiS jiP jaN p2 Q) : Met l yX2_readClause wsX2_readClause ({ frames := 5, cells := 0, slots := 0, locals := 108 }) (va_Pc [.ref a0, .ref a1, .int p2] (cPs (zE) l (dC, dI) (kT cyB cyI cyJ cyP) (qDG a0 jha jhj jjQ jjU jla jjy jkT jjT jaN jaC jbw jkk a1 jbF jb5 jhS jeF jcI jcU jbM jbF cyB jcq jkT cyI jl3 jjQ cyI jlB jjU cyI jlx jla cyI jms jjy cyI jlq jha cyI jiS jhj cyI jiP) sz)) (va_Qv (fun (u : Int32 × Int32 × Int32 × Int32 × NI × NI × NI × Int32 × NI × NI × Int32 × NI × NI × Int32) => Q u.1 u.2.1 u.2.2.1 u.2.2.2.1 u.2.2.2.2.1 u.2.2.2.2.2.1 u.2.2.2.2.2.2.1 u.2.2.2.2.2.2.2.1 u.2.2.2.2.2.2.2.2.1 u.2.2.2.2.2.2.2.2.2.1 u.2.2.2.2.2.2.2.2.2.2.1 u.2.2.2.2.2.2.2.2.2.2.2.1 u.2.2.2.2.2.2.2.2.2.2.2.2.1 u.2.2.2.2.2.2.2.2.2.2.2.2.2) (cB (dC, dI) (kT cyB cyI cyJ cyP) (va_A (qDG a0 jha jhj jjQ jjU jla jjy jkT jjT jaN jaC jbw jkk a1 jbF jb5 jhS jeF jcI jcU jbM jbF cyB jcq jkT cyI jl3 jjQ cyI jlB jjU cyI jlx jla cyI jms jjy cyI jlq jha cyI jiS jhj cyI jiP) sz) (fun u : Int32 × Int32 × Int32 × Int32 × NI × NI × NI × Int32 × NI × NI × Int32 × NI × NI × Int32 => ((qDG a0 jha jhj jjQ jjU jla jjy jkT jjT u.2.2.2.2.2.2.2.2.2.2.2.2.2 u.2.2.2.2.2.2.2.2.2.2.1 u.2.2.2.2.2.2.2.1 jkk a1 jbF jb5 u.1 u.2.1 jcI u.2.2.1 u.2.2.2.1 jbF cyB jcq jkT cyI u.2.2.2.2.1 jjQ cyI u.2.2.2.2.2.1 jjU cyI u.2.2.2.2.2.2.1 jla cyI u.2.2.2.2.2.2.2.2.1 jjy cyI u.2.2.2.2.2.2.2.2.2.1 jha cyI u.2.2.2.2.2.2.2.2.2.2.2.1 jhj cyI u.2.2.2.2.2.2.2.2.2.2.2.2.1) : va_W))) (va_A (qDG a0 jha jhj jjQ jjU jla jjy jkT jjT jaN jaC jbw jkk a1 jbF jb5 jhS jeF jcI jcU jbM jbF cyB jcq jkT cyI jl3 jjQ cyI jlB jjU cyI jlx jla cyI jms jjy cyI jlq jha cyI jiS jhj cyI jiP) sz)) 0 0 (va_A (qDG a0 jha jhj jjQ jjU jla jjy jkT jjT jaN jaC jbw jkk a1 jbF jb5 jhS jeF jcI jcU jbM jbF cyB jcq jkT cyI jl3 jjQ cyI jlB jjU cyI jlx jla cyI jms jjy cyI jlq jha cyI jiS jhj cyI jiP) sz) := by
  refine Met.ofW (cc := cX2_readClause) (maxL := 3) (ret := none) (by decide) rfl ?_
  intro p e s m args below meth c s₁ B hml hv
  obtain ⟨rfl, ⟨hsz, hP, hK, hD0, hNw, hXl, hXu, hXn, hXt⟩, hE0⟩ := hv
  have hx := B.exec
  have hb := B.bytes
  have hr := B.returns
  have hts := atoms_spec (ws := wsX2_readClause) B.pre
  have hown : s.vm.findClass RX2 = some m.cls := findClass_of_methodNamed B.named
  have hlocks := B.notSynchronized
  subst hsz
  have hD := hD0.self (sz := s.heap.size)
  generalize hAe : va_A (qDG a0 jha jhj jjQ jjU jla jjy jkT jjT jaN jaC jbw jkk a1 jbF jb5 jhS jeF jcI jcU jbM jbF cyB jcq jkT cyI jl3 jjQ cyI jlB jjU cyI jlx jla cyI jms jjy cyI jlq jha cyI jiS jhj cyI jiP) s.heap.size = A at hD hXu hXn hE0 ⊢
  have hA : ∀ q : Nat, s.heap.size ≤ q → A q := fun q h => by rw [← hAe]; exact Or.inr h
  have hS : va_S A s.heap s.heap [] := va_S.rf
  have hP : va_P (dC, dI) vwCl (qDG a0 jha jhj jjQ jjU jla jjy jkT jjT jaN jaC jbw jkk a1 jbF jb5 jhS jeF jcI jcU jbM jbF cyB jcq jkT cyI jl3 jjQ cyI jlB jjU cyI jlx jla cyI jms jjy cyI jlq jha cyI jiS jhj cyI jiP) s.heap := hP
  have hl := lv_entry ([.ref a0, .ref a1, .int p2]) (n := 3) (nbq rfl)
  rw [lg_entry_eq]
  generalize (lg_sl ([.ref a0, .ref a1, .int p2]) ++ List.replicate (3 - (lg_sl ([.ref a0, .ref a1, .int p2])).length) Slot.unset).toArray = ls at hl ⊢
  have hl : lv_has ls 3 [(0, .ref a0), (1, .ref a1), (2, .int p2)] := hl
  have hY : cfY l s A := ⟨hXl, hXu, hXn, hXt⟩
  have C0 : cfx p s m _ meth c cX2_readClause none wsX2_readClause RX2 3 A (dC, dI) (kT cyB cyI cyJ cyP) ∧ cfY l s A ∧ zE A s s.heap := ⟨⟨hx, hb, hr, hts, hown, hlocks, hml, hA, hK, hNw⟩, hY, hE0⟩
  have hE := hE0
  clear hAe
  obtain ⟨H, hH⟩ : ∃ H, H = s.heap := ⟨_, rfl⟩
  rw [← hH] at hP ⊢
  have hS : va_S A s.heap H [] := by rw [hH]; exact va_S.rf
  have hS := hS
  refine lv_aload_n hx hb (qaa qdv 0 rfl) rfl (lv_at hl 1 rfl) ?_
  obtain ⟨k1, hRk1, hZk1⟩ := qbbq hE
  refine va_ldcS hx hb hown hRk1 (qaa qdv 1 rfl) ?_
  obtain ⟨hCc, hPc, hDc, hFc⟩ := qac (ws' := (qqZ a1 jbF jb5 jhS jeF jcI jcU jbM jbF cyB jcq)) hP hD hS hA [1, 2] (by decide +kernel) rfl
  refine va_calli (va_runV (As := [.ref k1]) (rest := []) ⟨hx, hb, hml, hown, hts⟩ (qb9 l dC dI cyB cyI cyJ cyP a1 k1 jbF H.size (jcI) (.int jbM) 4 q5d jb5 jcU jcq jhS jeF hw) (cwV 1 hts gX2_readClause_X8_takesWord rfl rfl rfl (by decide +kernel) ⟨nbq rfl, nbq rfl⟩) ⟨qat qsS, va_recv (q := (RX8, TX8, 7)) hK hPc (ci := 8) (q0 := 0) rfl rfl, qbg qsS hPc hK hDc hNw hY ⟨hE, hZk1⟩ hS hFc⟩ rfl rfl hl.1 rfl (lv_room (nbq rfl)) (qaa qdv 2 rfl) ⟨nbq rfl, nbq rfl⟩) hS (fun q _ h => hFc q h) hFc (fun r4 u t H1 locs ht hvm hw hB hz1 hk1 hS => ?_)
  obtain ⟨x2, x3⟩ := u
  obtain ⟨hP1, hK1, hD1⟩ := hB
  rw [ht] at hP1
  obtain ⟨hP, hD⟩ := qad (wr := (qaEu a0 jha jhj jjQ jjU jla jjy jkT jjT jaN jaC jbw jkk jkT cyI jl3 jjQ cyI jlB jjU cyI jlx jla cyI jms jjy cyI jlq jha cyI jiS jhj cyI jiP)) (w1 := (qqZ a1 jbF jb5 x2 x3 jcI jcU jbM jbF cyB jcq)) (wn := (qDG a0 jha jhj jjQ jjU jla jjy jkT jjT jaN jaC jbw jkk a1 jbF jb5 x2 x3 jcI jcU jbM jbF cyB jcq jkT cyI jl3 jjQ cyI jlB jjU cyI jlx jla cyI jms jjy cyI jlq jha cyI jiS jhj cyI jiP)) hP hD [1, 2] [0, 3, 4, 5, 6, 7, 8, 9] [0, 8, 9, 1, 2, 3, 4, 5, 6, 7] hCc rfl (by decide +kernel) (by decide +kernel) (by decide +kernel) rfl hk1 hFc hP1 hD1
  generalize H1 = H at hP hS ⊢
  refine lv_if_eq (tgt := 18) hx hb (qaa qdv 3 rfl) (by decide) (fun c5 => ?_) (fun c5 => ?_)
  · have hw := hw.1 c5
    refine lv_aload_n hx hb (qaa qdv 9 rfl) rfl (lv_at hl 1 rfl) ?_
    obtain ⟨k6, hRk6, hZk6⟩ := qbb3 hE
    refine va_ldcS hx hb hown hRk6 (qaa qdv 10 rfl) ?_
    obtain ⟨hCc, hPc, hDc, hFc⟩ := qac (ws' := (qqZ a1 jbF jb5 x2 x3 jcI jcU jbM jbF cyB jcq)) hP hD hS hA [1, 2] (by decide +kernel) rfl
    refine va_calli (va_runV (As := [.ref k6]) (rest := []) ⟨hx, hb, hml, hown, hts⟩ (qb9 l dC dI cyB cyI cyJ cyP a1 k6 jbF H.size (jcI) (.int jbM) 4 q5r jb5 jcU jcq x2 x3 hw) (cwV 1 hts gX2_readClause_X8_takesWord rfl rfl rfl (by decide +kernel) ⟨nbq rfl, nbq rfl⟩) ⟨qat qsS, va_recv (q := (RX8, TX8, 7)) hK hPc (ci := 8) (q0 := 0) rfl rfl, qbg qsS hPc hK hDc hNw hY ⟨hE, hZk6⟩ hS hFc⟩ rfl rfl hl.1 rfl (lv_room (nbq rfl)) (qaa qdv 11 rfl) ⟨nbq rfl, nbq rfl⟩) hS (fun q _ h => hFc q h) hFc (fun r9 u t H1 locs ht hvm hw hB hz1 hk1 hS => ?_)
    obtain ⟨x7, x8⟩ := u
    obtain ⟨hP1, hK1, hD1⟩ := hB
    rw [ht] at hP1
    obtain ⟨hP, hD⟩ := qad (wr := (qaEu a0 jha jhj jjQ jjU jla jjy jkT jjT jaN jaC jbw jkk jkT cyI jl3 jjQ cyI jlB jjU cyI jlx jla cyI jms jjy cyI jlq jha cyI jiS jhj cyI jiP)) (w1 := (qqZ a1 jbF jb5 x7 x8 jcI jcU jbM jbF cyB jcq)) (wn := (qDG a0 jha jhj jjQ jjU jla jjy jkT jjT jaN jaC jbw jkk a1 jbF jb5 x7 x8 jcI jcU jbM jbF cyB jcq jkT cyI jl3 jjQ cyI jlB jjU cyI jlx jla cyI jms jjy cyI jlq jha cyI jiS jhj cyI jiP)) hP hD [1, 2] [0, 3, 4, 5, 6, 7, 8, 9] [0, 8, 9, 1, 2, 3, 4, 5, 6, 7] hCc rfl (by decide +kernel) (by decide +kernel) (by decide +kernel) rfl hk1 hFc hP1 hD1
    generalize H1 = H at hP hS ⊢
    refine lv_if_eq (tgt := 36) hx hb (qaa qdv 12 rfl) (by decide) (fun c10 => ?_) (fun c10 => ?_)
    · have hw := hw.1 c10
      refine lv_aload_n hx hb (qaa qcX 2 rfl) rfl (lv_at hl 1 rfl) ?_
      obtain ⟨k11, hRk11, hZk11⟩ := qbcl hE
      refine va_ldcS hx hb hown hRk11 (qaa qcX 3 rfl) ?_
      obtain ⟨hCc, hPc, hDc, hFc⟩ := qac (ws' := (qqZ a1 jbF jb5 x7 x8 jcI jcU jbM jbF cyB jcq)) hP hD hS hA [1, 2] (by decide +kernel) rfl
      refine va_calli (va_runV (As := [.ref k11]) (rest := []) ⟨hx, hb, hml, hown, hts⟩ (qb9 l dC dI cyB cyI cyJ cyP a1 k11 jbF H.size (jcI) (.int jbM) 3 q4Y jb5 jcU jcq x7 x8 hw) (cwV 1 hts gX2_readClause_X8_takesWord rfl rfl rfl (by decide +kernel) ⟨nbq rfl, nbq rfl⟩) ⟨qat qsS, va_recv (q := (RX8, TX8, 7)) hK hPc (ci := 8) (q0 := 0) rfl rfl, qbg qsS hPc hK hDc hNw hY ⟨hE, hZk11⟩ hS hFc⟩ rfl rfl hl.1 rfl (lv_room (nbq rfl)) (qaa qcX 4 rfl) ⟨nbq rfl, nbq rfl⟩) hS (fun q _ h => hFc q h) hFc (fun r14 u t H1 locs ht hvm hw hB hz1 hk1 hS => ?_)
      obtain ⟨x12, x13⟩ := u
      obtain ⟨hP1, hK1, hD1⟩ := hB
      rw [ht] at hP1
      obtain ⟨hP, hD⟩ := qad (wr := (qaEu a0 jha jhj jjQ jjU jla jjy jkT jjT jaN jaC jbw jkk jkT cyI jl3 jjQ cyI jlB jjU cyI jlx jla cyI jms jjy cyI jlq jha cyI jiS jhj cyI jiP)) (w1 := (qqZ a1 jbF jb5 x12 x13 jcI jcU jbM jbF cyB jcq)) (wn := (qDG a0 jha jhj jjQ jjU jla jjy jkT jjT jaN jaC jbw jkk a1 jbF jb5 x12 x13 jcI jcU jbM jbF cyB jcq jkT cyI jl3 jjQ cyI jlB jjU cyI jlx jla cyI jms jjy cyI jlq jha cyI jiS jhj cyI jiP)) hP hD [1, 2] [0, 3, 4, 5, 6, 7, 8, 9] [0, 8, 9, 1, 2, 3, 4, 5, 6, 7] hCc rfl (by decide +kernel) (by decide +kernel) (by decide +kernel) rfl hk1 hFc hP1 hD1
      generalize H1 = H at hP hS ⊢
      refine lv_if_eq (tgt := 54) hx hb (qaa qcX 5 rfl) (by decide) (fun c15 => ?_) (fun c15 => ?_)
      · have hw := hw.1 c15
        refine lv_aload_n hx hb (qaa qcX 11 rfl) rfl (lv_at hl 1 rfl) ?_
        obtain ⟨k16, hRk16, hZk16⟩ := qbcr hE
        refine va_ldcS hx hb hown hRk16 (qaa qcX 12 rfl) ?_
        obtain ⟨hCc, hPc, hDc, hFc⟩ := qac (ws' := (qqZ a1 jbF jb5 x12 x13 jcI jcU jbM jbF cyB jcq)) hP hD hS hA [1, 2] (by decide +kernel) rfl
        refine va_calli (va_runV (As := [.ref k16]) (rest := []) ⟨hx, hb, hml, hown, hts⟩ (qb9 l dC dI cyB cyI cyJ cyP a1 k16 jbF H.size (jcI) (.int jbM) 4 q40 jb5 jcU jcq x12 x13 hw) (cwV 1 hts gX2_readClause_X8_takesWord rfl rfl rfl (by decide +kernel) ⟨nbq rfl, nbq rfl⟩) ⟨qat qsS, va_recv (q := (RX8, TX8, 7)) hK hPc (ci := 8) (q0 := 0) rfl rfl, qbg qsS hPc hK hDc hNw hY ⟨hE, hZk16⟩ hS hFc⟩ rfl rfl hl.1 rfl (lv_room (nbq rfl)) (qaa qcX 13 rfl) ⟨nbq rfl, nbq rfl⟩) hS (fun q _ h => hFc q h) hFc (fun r19 u t H1 locs ht hvm hw hB hz1 hk1 hS => ?_)
        obtain ⟨x17, x18⟩ := u
        obtain ⟨hP1, hK1, hD1⟩ := hB
        rw [ht] at hP1
        obtain ⟨hP, hD⟩ := qad (wr := (qaEu a0 jha jhj jjQ jjU jla jjy jkT jjT jaN jaC jbw jkk jkT cyI jl3 jjQ cyI jlB jjU cyI jlx jla cyI jms jjy cyI jlq jha cyI jiS jhj cyI jiP)) (w1 := (qqZ a1 jbF jb5 x17 x18 jcI jcU jbM jbF cyB jcq)) (wn := (qDG a0 jha jhj jjQ jjU jla jjy jkT jjT jaN jaC jbw jkk a1 jbF jb5 x17 x18 jcI jcU jbM jbF cyB jcq jkT cyI jl3 jjQ cyI jlB jjU cyI jlx jla cyI jms jjy cyI jlq jha cyI jiS jhj cyI jiP)) hP hD [1, 2] [0, 3, 4, 5, 6, 7, 8, 9] [0, 8, 9, 1, 2, 3, 4, 5, 6, 7] hCc rfl (by decide +kernel) (by decide +kernel) (by decide +kernel) rfl hk1 hFc hP1 hD1
        generalize H1 = H at hP hS ⊢
        refine lv_if_eq (tgt := 72) hx hb (qaa qcX 14 rfl) (by decide) (fun c20 => ?_) (fun c20 => ?_)
        · have hw := hw.1 c20
          refine lv_aload_n hx hb (qaa qit 4 rfl) rfl (lv_at hl 1 rfl) ?_
          obtain ⟨hCc, hPc, hDc, hFc⟩ := qac (ws' := (qqZ a1 jbF jb5 x17 x18 jcI jcU jbM jbF cyB jcq)) hP hD hS hA [1, 2] (by decide +kernel) rfl
          refine va_callv (va_runV (As := []) (rest := []) ⟨hx, hb, hml, hown, hts⟩ (qCs l dC dI cyB cyI cyJ cyP a1 jbF H.size (.int x18) (jcI) jb5 jcq x17 jcU jbM hw) (cwV 0 hts gX2_readClause_X8_blameSign rfl rfl rfl (by decide +kernel) ⟨nbq rfl, nbq rfl⟩) ⟨qab, va_recv (q := (RX8, TX8, 7)) hK hPc (ci := 8) (q0 := 0) rfl rfl, qae hPc hK hDc hNw⟩ rfl rfl hl.1 rfl (lv_room (nbq rfl)) (qaa qit 5 rfl) ⟨nbq rfl, nbq rfl⟩) hS (fun q _ h => hFc q h) hFc (fun u t H1 locs ht hvm hw hB hz1 hk1 hS => ?_)
          obtain ⟨x21, x22, x23⟩ := u
          obtain ⟨hP1, hK1, hD1⟩ := hB
          rw [ht] at hP1
          obtain ⟨hP, hD⟩ := qad (wr := (qaEu a0 jha jhj jjQ jjU jla jjy jkT jjT jaN jaC jbw jkk jkT cyI jl3 jjQ cyI jlB jjU cyI jlx jla cyI jms jjy cyI jlq jha cyI jiS jhj cyI jiP)) (w1 := (qqZ a1 jbF jb5 x21 x18 jcI x22 x23 jbF cyB jcq)) (wn := (qDG a0 jha jhj jjQ jjU jla jjy jkT jjT jaN jaC jbw jkk a1 jbF jb5 x21 x18 jcI x22 x23 jbF cyB jcq jkT cyI jl3 jjQ cyI jlB jjU cyI jlx jla cyI jms jjy cyI jlq jha cyI jiS jhj cyI jiP)) hP hD [1, 2] [0, 3, 4, 5, 6, 7, 8, 9] [0, 8, 9, 1, 2, 3, 4, 5, 6, 7] hCc rfl (by decide +kernel) (by decide +kernel) (by decide +kernel) rfl hk1 hFc hP1 hD1
          generalize H1 = H at hP hS ⊢
          exact ((W.vret hx hb hr (fun t ht hW => ⟨⟨(x21, x18, x22, x23, jl3, jlB, jlx, jbw, jms, jlq, jaC, jiS, jiP, jaN), rfl, hw, by rw [ht]; exact hP, va_K.moved hW.alike hK, hD⟩, hS.F ht⟩) hS.2.2 (qaa qit 6 rfl)))
        · have hw := hw.2 c20
          refine lv_aload_n hx hb (qaa qcX 15 rfl) rfl (lv_at hl 0 rfl) ?_
          refine lv_aload_n hx hb (qaa qit 0 rfl) rfl (lv_at hl 1 rfl) ?_
          refine lv_iload_n hx hb (qaa qit 1 rfl) rfl (lv_at hl 2 rfl) ?_
          obtain ⟨hCc, hPc, hDc, hFc⟩ := qac (ws' := (qa9U a0 jha jhj jjQ jjU jla jjy jkT jjT jaN jaC jbw jkk a1 jbF jb5 x17 x18 jcI jcU jbM jbF cyB jcq jkT cyI jl3)) hP hD hS hA [0, 1, 2, 3] (by decide +kernel) rfl
          refine va_callv (va_runV (As := [.ref a1, .int p2]) (rest := []) ⟨hx, hb, hml, hown, hts⟩ (qaFI l dC dI cyB cyI cyJ cyP a0 a1 jbF jkT H.size (.ref jha) (.ref jhj) (.ref jjQ) (.ref jjU) (.ref jla) (.ref jjy) (jjT) (.int jaN) (.int jbw) (jkk) (jcI) jaC jb5 jcq x17 jcU jbM x18 jl3 p2 hw) (cwV 2 hts gX2_readClause_X2_readDebt rfl rfl rfl (by decide +kernel) ⟨nbq rfl, nbq rfl⟩) ⟨qab, va_recv (q := (RX2, TX2, 12)) hK hPc (ci := 2) (q0 := 0) rfl rfl, qae hPc hK hDc hNw⟩ rfl rfl hl.1 rfl (lv_room (nbq rfl)) (qaa qit 2 rfl) ⟨nbq rfl, nbq rfl⟩) hS (fun q _ h => hFc q h) hFc (fun u t H1 locs ht hvm hw hB hz1 hk1 hS => ?_)
          obtain ⟨x24, x25, x26, x27, f28⟩ := u
          obtain ⟨hP1, hK1, hD1⟩ := hB
          rw [ht] at hP1
          obtain ⟨hP, hD⟩ := qad (wr := [(jjQ, .inl (cyI, 4, .inl jlB)), (jjU, .inl (cyI, 4, .inl jlx)), (jla, .inl (cyI, 6, .inl jms)), (jjy, .inl (cyI, 6, .inl jlq)), (jha, .inl (cyI, 8, .inl jiS)), (jhj, .inl (cyI, 8, .inl jiP))]) (w1 := (qa9U a0 jha jhj jjQ jjU jla jjy jkT jjT jaN jaC jbw jkk a1 jbF jb5 x24 x27 jcI x25 x26 jbF cyB jcq jkT cyI f28)) (wn := (qDG a0 jha jhj jjQ jjU jla jjy jkT jjT jaN jaC jbw jkk a1 jbF jb5 x24 x27 jcI x25 x26 jbF cyB jcq jkT cyI f28 jjQ cyI jlB jjU cyI jlx jla cyI jms jjy cyI jlq jha cyI jiS jhj cyI jiP)) hP hD [0, 1, 2, 3] [4, 5, 6, 7, 8, 9] [6, 7, 8, 9, 0, 1, 2, 3, 4, 5] hCc rfl (by decide +kernel) (by decide +kernel) (by decide +kernel) rfl hk1 hFc hP1 hD1
          generalize H1 = H at hP hS ⊢
          refine lv_goto (tgt := 76) hx hb (qaa qit 3 rfl) (by decide) ?_
          exact ((W.vret hx hb hr (fun t ht hW => ⟨⟨(x24, x27, x25, x26, f28, jlB, jlx, jbw, jms, jlq, jaC, jiS, jiP, jaN), rfl, hw, by rw [ht]; exact hP, va_K.moved hW.alike hK, hD⟩, hS.F ht⟩) hS.2.2 (qaa qit 6 rfl)))
      · have hw := hw.2 c15
        refine lv_aload_n hx hb (qaa qcX 6 rfl) rfl (lv_at hl 0 rfl) ?_
        refine lv_aload_n hx hb (qaa qcX 7 rfl) rfl (lv_at hl 1 rfl) ?_
        refine lv_iload_n hx hb (qaa qcX 8 rfl) rfl (lv_at hl 2 rfl) ?_
        obtain ⟨hCc, hPc, hDc, hFc⟩ := qac (ws' := (qa5l a0 jha jhj jjQ jjU jla jjy jkT jjT jaN jaC jbw jkk a1 jbF jb5 x12 x13 jcI jcU jbM jbF cyB jcq jjQ cyI jlB jjU cyI jlx)) hP hD hS hA [0, 1, 2, 4, 5] (by decide +kernel) rfl
        refine va_callv (va_runV (As := [.ref a1, .int p2]) (rest := []) ⟨hx, hb, hml, hown, hts⟩ (qaNL l dC dI cyB cyI cyJ cyP a0 a1 jjQ jbF jjU H.size (.ref jha) (.ref jhj) (.ref jla) (.ref jjy) (.ref jkT) (jjT) (.int jaN) (.int jaC) (jkk) (jcI) jb5 jcq x12 jcU jbM x13 jlB jlx jbw p2 hw) (cwV 2 hts gX2_readClause_X2_readFox rfl rfl rfl (by decide +kernel) ⟨nbq rfl, nbq rfl⟩) ⟨qab, va_recv (q := (RX2, TX2, 12)) hK hPc (ci := 2) (q0 := 0) rfl rfl, qae hPc hK hDc hNw⟩ rfl rfl hl.1 rfl (lv_room (nbq rfl)) (qaa qcX 9 rfl) ⟨nbq rfl, nbq rfl⟩) hS (fun q _ h => hFc q h) hFc (fun u t H1 locs ht hvm hw hB hz1 hk1 hS => ?_)
        obtain ⟨x29, x30, x31, x32, f33, f34, x35⟩ := u
        obtain ⟨hP1, hK1, hD1⟩ := hB
        rw [ht] at hP1
        obtain ⟨hP, hD⟩ := qad (wr := [(jkT, .inl (cyI, 36, .inl jl3)), (jla, .inl (cyI, 6, .inl jms)), (jjy, .inl (cyI, 6, .inl jlq)), (jha, .inl (cyI, 8, .inl jiS)), (jhj, .inl (cyI, 8, .inl jiP))]) (w1 := (qa5l a0 jha jhj jjQ jjU jla jjy jkT jjT jaN jaC x35 jkk a1 jbF jb5 x29 x32 jcI x30 x31 jbF cyB jcq jjQ cyI f33 jjU cyI f34)) (wn := (qDG a0 jha jhj jjQ jjU jla jjy jkT jjT jaN jaC x35 jkk a1 jbF jb5 x29 x32 jcI x30 x31 jbF cyB jcq jkT cyI jl3 jjQ cyI f33 jjU cyI f34 jla cyI jms jjy cyI jlq jha cyI jiS jhj cyI jiP)) hP hD [0, 1, 2, 4, 5] [3, 6, 7, 8, 9] [5, 6, 7, 0, 8, 9, 1, 2, 3, 4] hCc rfl (by decide +kernel) (by decide +kernel) (by decide +kernel) rfl hk1 hFc hP1 hD1
        generalize H1 = H at hP hS ⊢
        refine lv_goto (tgt := 76) hx hb (qaa qcX 10 rfl) (by decide) ?_
        exact ((W.vret hx hb hr (fun t ht hW => ⟨⟨(x29, x32, x30, x31, jl3, f33, f34, x35, jms, jlq, jaC, jiS, jiP, jaN), rfl, hw, by rw [ht]; exact hP, va_K.moved hW.alike hK, hD⟩, hS.F ht⟩) hS.2.2 (qaa qit 6 rfl)))
    · have hw := hw.2 c10
      refine lv_aload_n hx hb (qaa qdv 13 rfl) rfl (lv_at hl 0 rfl) ?_
      refine lv_aload_n hx hb (qaa qdv 14 rfl) rfl (lv_at hl 1 rfl) ?_
      refine lv_iload_n hx hb (qaa qdv 15 rfl) rfl (lv_at hl 2 rfl) ?_
      obtain ⟨hCc, hPc, hDc, hFc⟩ := qac (ws' := (qa6y a0 jha jhj jjQ jjU jla jjy jkT jjT jaN jaC jbw jkk a1 jbF jb5 x7 x8 jcI jcU jbM jbF cyB jcq jla cyI jms jjy cyI jlq)) hP hD hS hA [0, 1, 2, 6, 7] (by decide +kernel) rfl
      refine va_callv (va_runV (As := [.ref a1, .int p2]) (rest := []) ⟨hx, hb, hml, hown, hts⟩ (qaIM l dC dI cyB cyI cyJ cyP a0 a1 jla jbF jjy H.size (.ref jha) (.ref jhj) (.ref jjQ) (.ref jjU) (.ref jkT) (jjT) (.int jbw) (jkk) (jcI) jaN jb5 jcq x7 jcU jbM x8 jms jlq jaC p2 hw) (cwV 2 hts gX2_readClause_X2_readHare rfl rfl rfl (by decide +kernel) ⟨nbq rfl, nbq rfl⟩) ⟨qab, va_recv (q := (RX2, TX2, 12)) hK hPc (ci := 2) (q0 := 0) rfl rfl, qae hPc hK hDc hNw⟩ rfl rfl hl.1 rfl (lv_room (nbq rfl)) (qaa qcX 0 rfl) ⟨nbq rfl, nbq rfl⟩) hS (fun q _ h => hFc q h) hFc (fun u t H1 locs ht hvm hw hB hz1 hk1 hS => ?_)
      obtain ⟨x36, x37, x38, x39, f40, f41, x42⟩ := u
      obtain ⟨hP1, hK1, hD1⟩ := hB
      rw [ht] at hP1
      obtain ⟨hP, hD⟩ := qad (wr := [(jkT, .inl (cyI, 36, .inl jl3)), (jjQ, .inl (cyI, 4, .inl jlB)), (jjU, .inl (cyI, 4, .inl jlx)), (jha, .inl (cyI, 8, .inl jiS)), (jhj, .inl (cyI, 8, .inl jiP))]) (w1 := (qa6y a0 jha jhj jjQ jjU jla jjy jkT jjT jaN x42 jbw jkk a1 jbF jb5 x36 x39 jcI x37 x38 jbF cyB jcq jla cyI f40 jjy cyI f41)) (wn := (qDG a0 jha jhj jjQ jjU jla jjy jkT jjT jaN x42 jbw jkk a1 jbF jb5 x36 x39 jcI x37 x38 jbF cyB jcq jkT cyI jl3 jjQ cyI jlB jjU cyI jlx jla cyI f40 jjy cyI f41 jha cyI jiS jhj cyI jiP)) hP hD [0, 1, 2, 6, 7] [3, 4, 5, 8, 9] [5, 6, 7, 0, 1, 2, 8, 9, 3, 4] hCc rfl (by decide +kernel) (by decide +kernel) (by decide +kernel) rfl hk1 hFc hP1 hD1
      generalize H1 = H at hP hS ⊢
      refine lv_goto (tgt := 76) hx hb (qaa qcX 1 rfl) (by decide) ?_
      exact ((W.vret hx hb hr (fun t ht hW => ⟨⟨(x36, x39, x37, x38, jl3, jlB, jlx, jbw, f40, f41, x42, jiS, jiP, jaN), rfl, hw, by rw [ht]; exact hP, va_K.moved hW.alike hK, hD⟩, hS.F ht⟩) hS.2.2 (qaa qit 6 rfl)))
  · have hw := hw.2 c5
    refine lv_aload_n hx hb (qaa qdv 4 rfl) rfl (lv_at hl 0 rfl) ?_
    refine lv_aload_n hx hb (qaa qdv 5 rfl) rfl (lv_at hl 1 rfl) ?_
    refine lv_iload_n hx hb (qaa qdv 6 rfl) rfl (lv_at hl 2 rfl) ?_
    obtain ⟨hCc, hPc, hDc, hFc⟩ := qac (ws' := (qa6q a0 jha jhj jjQ jjU jla jjy jkT jjT jaN jaC jbw jkk a1 jbF jb5 x2 x3 jcI jcU jbM jbF cyB jcq jha cyI jiS jhj cyI jiP)) hP hD hS hA [0, 1, 2, 8, 9] (by decide +kernel) rfl
    refine va_callv (va_runV (As := [.ref a1, .int p2]) (rest := []) ⟨hx, hb, hml, hown, hts⟩ (qaFP l dC dI cyB cyI cyJ cyP a0 a1 jha jbF jhj H.size (.ref jjQ) (.ref jjU) (.ref jla) (.ref jjy) (.ref jkT) (jjT) (.int jaC) (.int jbw) (jkk) (jcI) jb5 jcq x2 jcU jbM x3 jiS jiP jaN p2 hw) (cwV 2 hts gX2_readClause_X2_readForm rfl rfl rfl (by decide +kernel) ⟨nbq rfl, nbq rfl⟩) ⟨qab, va_recv (q := (RX2, TX2, 12)) hK hPc (ci := 2) (q0 := 0) rfl rfl, qae hPc hK hDc hNw⟩ rfl rfl hl.1 rfl (lv_room (nbq rfl)) (qaa qdv 7 rfl) ⟨nbq rfl, nbq rfl⟩) hS (fun q _ h => hFc q h) hFc (fun u t H1 locs ht hvm hw hB hz1 hk1 hS => ?_)
    obtain ⟨x43, x44, x45, x46, f47, f48, x49⟩ := u
    obtain ⟨hP1, hK1, hD1⟩ := hB
    rw [ht] at hP1
    obtain ⟨hP, hD⟩ := qad (wr := [(jkT, .inl (cyI, 36, .inl jl3)), (jjQ, .inl (cyI, 4, .inl jlB)), (jjU, .inl (cyI, 4, .inl jlx)), (jla, .inl (cyI, 6, .inl jms)), (jjy, .inl (cyI, 6, .inl jlq))]) (w1 := (qa6q a0 jha jhj jjQ jjU jla jjy jkT jjT x49 jaC jbw jkk a1 jbF jb5 x43 x46 jcI x44 x45 jbF cyB jcq jha cyI f47 jhj cyI f48)) (wn := (qDG a0 jha jhj jjQ jjU jla jjy jkT jjT x49 jaC jbw jkk a1 jbF jb5 x43 x46 jcI x44 x45 jbF cyB jcq jkT cyI jl3 jjQ cyI jlB jjU cyI jlx jla cyI jms jjy cyI jlq jha cyI f47 jhj cyI f48)) hP hD [0, 1, 2, 8, 9] [3, 4, 5, 6, 7] [5, 6, 7, 0, 1, 2, 3, 4, 8, 9] hCc rfl (by decide +kernel) (by decide +kernel) (by decide +kernel) rfl hk1 hFc hP1 hD1
    generalize H1 = H at hP hS ⊢
    refine lv_goto (tgt := 76) hx hb (qaa qdv 8 rfl) (by decide) ?_
    exact ((W.vret hx hb hr (fun t ht hW => ⟨⟨(x43, x46, x44, x45, jl3, jlB, jlx, jbw, jms, jlq, jaC, f47, f48, x49), rfl, hw, by rw [ht]; exact hP, va_K.moved hW.alike hK, hD⟩, hS.F ht⟩) hS.2.2 (qaa qit 6 rfl)))
theorem qvP : ∀ w ∈ u_ws RX2 TX2 12, w ∈ wsX2_readFrom := uiM qpG qLp (by decide +kernel)
theorem qNq : (.fieldLink RX2 30 "MarchHares$Down" "debts" "[I" : Cond) ∈ wsX2_readFrom := qpG 194 (by decide +kernel)
theorem q7b : (.fieldLink RX2 36 "MarchHares$Down" "forms" "I" : Cond) ∈ wsX2_readFrom := qpG 720 (by decide +kernel)
theorem q50 : (.fieldLink RX2 40 "MarchHares$Down" "hares" "I" : Cond) ∈ wsX2_readFrom := qpG 721 (by decide +kernel)
theorem q5N : (.fieldLink RX2 43 "MarchHares$Down" "foxes" "I" : Cond) ∈ wsX2_readFrom := qpG 722 (by decide +kernel)
set_option maxHeartbeats 4000000 in
set_option maxRecDepth 100000 in
theorem qQk {p : Program} {l : Launch} {e : Env} {s : State} {m : MethodId} {args : Array Value} {below : List Frame} {meth : Method} {c : Code} {A : Nat → Prop} (dC : Nat → ClassId) (dI : Nat → Nat → Nat) (cyB cyI cyJ cyP : ClassId) (a0 a1 jkT jbF jha jjQ jhj jjU jla jjy : Nat) (jjT jcI : Value) (jb5 : Int32) (jcq : NI) (Q : Int32 → Int32 → Int32 → NI → Int32 → Int32 → Int32 → Int32 → Int32 → NI → NI → NI → NI → NI → NI → Prop) (K41 : Int32 → Int32 → Int32 → NI → Int32 → Int32 → Int32 → Int32 → Int32 → NI → NI → NI → NI → NI → NI → Int32 → Prop) (hK41 : ∀ (H : Heap) (locs : List Loc) (ls : Array Slot) (jaN jaC jbw : Int32) (jl3 : NI) (jhS jmw jeF jcU jbM : Int32) (jlB jlx jms jlq jiS jiP : NI) (l2 : Int32), va_P (dC, dI) vwCl (qpJ a0 jha jhj jjQ jjU jla jjy jkT jjT jaN jaC jbw jmw jkT cyI jl3 a1 jbF jb5 jhS jeF jcI jcU jbM jbF cyB jcq jha cyI jiS jjQ cyI jlB jhj cyI jiP jjU cyI jlx jla cyI jms jjy cyI jlq) H → va_D A (qpJ a0 jha jhj jjQ jjU jla jjy jkT jjT jaN jaC jbw jmw jkT cyI jl3 a1 jbF jb5 jhS jeF jcI jcU jbM jbF cyB jcq jha cyI jiS jjQ cyI jlB jhj cyI jiP jjU cyI jlx jla cyI jms jjy cyI jlq) → va_S A s.heap H locs → lv_has ls 3 [(0, .ref a0), (1, .ref a1), (2, .int l2)] → K41 jaN jaC jbw jl3 jhS jmw jeF jcU jbM jlB jlx jms jlq jiS jiP l2 → W p l e (headSpec wsX2_readFrom ({ frames := 6, cells := 0, slots := 0, locals := 130 })).room s m args below meth c H locs 0 0 (MQ below (va_Qv (fun (u : Int32 × Int32 × Int32 × NI × Int32 × Int32 × Int32 × Int32 × Int32 × NI × NI × NI × NI × NI × NI) => Q u.1 u.2.1 u.2.2.1 u.2.2.2.1 u.2.2.2.2.1 u.2.2.2.2.2.1 u.2.2.2.2.2.2.1 u.2.2.2.2.2.2.2.1 u.2.2.2.2.2.2.2.2.1 u.2.2.2.2.2.2.2.2.2.1 u.2.2.2.2.2.2.2.2.2.2.1 u.2.2.2.2.2.2.2.2.2.2.2.1 u.2.2.2.2.2.2.2.2.2.2.2.2.1 u.2.2.2.2.2.2.2.2.2.2.2.2.2.1 u.2.2.2.2.2.2.2.2.2.2.2.2.2.2) (cB (dC, dI) (kT cyB cyI cyJ cyP) A (fun u : Int32 × Int32 × Int32 × NI × Int32 × Int32 × Int32 × Int32 × Int32 × NI × NI × NI × NI × NI × NI => ((qpJ a0 jha jhj jjQ jjU jla jjy jkT jjT u.1 u.2.1 u.2.2.1 u.2.2.2.2.2.1 jkT cyI u.2.2.2.1 a1 jbF jb5 u.2.2.2.2.1 u.2.2.2.2.2.2.1 jcI u.2.2.2.2.2.2.2.1 u.2.2.2.2.2.2.2.2.1 jbF cyB jcq jha cyI u.2.2.2.2.2.2.2.2.2.2.2.2.2.1 jjQ cyI u.2.2.2.2.2.2.2.2.2.1 jhj cyI u.2.2.2.2.2.2.2.2.2.2.2.2.2.2 jjU cyI u.2.2.2.2.2.2.2.2.2.2.1 jla cyI u.2.2.2.2.2.2.2.2.2.2.2.1 jjy cyI u.2.2.2.2.2.2.2.2.2.2.2.2.1) : va_W))) A) args s 0 0 A) (F0 m 41 ls [])) (C0 : cfx p s m args meth c cX2_readFrom none wsX2_readFrom RX2 3 A (dC, dI) (kT cyB cyI cyJ cyP) ∧ cfY l s A ∧ zE A s s.heap) : ∀ (H : Heap) (locs : List Loc) (ls : Array Slot) (jaN jaC jbw : Int32) (jl3 : NI) (jhS jmw jeF jcU jbM : Int32) (jlB jlx jms jlq jiS jiP : NI) (l2 s2 : Int32), va_P (dC, dI) vwCl (qpJ a0 jha jhj jjQ jjU jla jjy jkT jjT jaN jaC jbw jmw jkT cyI jl3 a1 jbF jb5 jhS jeF jcI jcU jbM jbF cyB jcq jha cyI jiS jjQ cyI jlB jhj cyI jiP jjU cyI jlx jla cyI jms jjy cyI jlq) H → va_D A (qpJ a0 jha jhj jjQ jjU jla jjy jkT jjT jaN jaC jbw jmw jkT cyI jl3 a1 jbF jb5 jhS jeF jcI jcU jbM jbF cyB jcq jha cyI jiS jjQ cyI jlB jhj cyI jiP jjU cyI jlx jla cyI jms jjy cyI jlq) → va_S A s.heap H locs → lv_has ls 3 [(0, .ref a0), (1, .ref a1), (2, .int l2)] → qzT jb5 jcq Q K41 jaN jaC jbw jl3 jhS jmw jeF jcU jbM jlB jlx jms jlq jiS jiP l2 s2 → W p l e (headSpec wsX2_readFrom ({ frames := 6, cells := 0, slots := 0, locals := 130 })).room s m args below meth c H locs 0 0 (MQ below (va_Qv (fun (u : Int32 × Int32 × Int32 × NI × Int32 × Int32 × Int32 × Int32 × Int32 × NI × NI × NI × NI × NI × NI) => Q u.1 u.2.1 u.2.2.1 u.2.2.2.1 u.2.2.2.2.1 u.2.2.2.2.2.1 u.2.2.2.2.2.2.1 u.2.2.2.2.2.2.2.1 u.2.2.2.2.2.2.2.2.1 u.2.2.2.2.2.2.2.2.2.1 u.2.2.2.2.2.2.2.2.2.2.1 u.2.2.2.2.2.2.2.2.2.2.2.1 u.2.2.2.2.2.2.2.2.2.2.2.2.1 u.2.2.2.2.2.2.2.2.2.2.2.2.2.1 u.2.2.2.2.2.2.2.2.2.2.2.2.2.2) (cB (dC, dI) (kT cyB cyI cyJ cyP) A (fun u : Int32 × Int32 × Int32 × NI × Int32 × Int32 × Int32 × Int32 × Int32 × NI × NI × NI × NI × NI × NI => ((qpJ a0 jha jhj jjQ jjU jla jjy jkT jjT u.1 u.2.1 u.2.2.1 u.2.2.2.2.2.1 jkT cyI u.2.2.2.1 a1 jbF jb5 u.2.2.2.2.1 u.2.2.2.2.2.2.1 jcI u.2.2.2.2.2.2.2.1 u.2.2.2.2.2.2.2.2.1 jbF cyB jcq jha cyI u.2.2.2.2.2.2.2.2.2.2.2.2.2.1 jjQ cyI u.2.2.2.2.2.2.2.2.2.1 jhj cyI u.2.2.2.2.2.2.2.2.2.2.2.2.2.2 jjU cyI u.2.2.2.2.2.2.2.2.2.2.1 jla cyI u.2.2.2.2.2.2.2.2.2.2.2.1 jjy cyI u.2.2.2.2.2.2.2.2.2.2.2.2.1) : va_W))) A) args s 0 0 A) (F0 m 74 ls [.int s2, .ref a1, .ref a0]) := by
  obtain ⟨⟨hx, hb, hr, hts, hown, hlocks, hml, hA, hK, hNw⟩, hY, hE0⟩ := id C0
  have hE := hE0
  intro H locs ls jaN jaC jbw jl3 jhS jmw jeF jcU jbM jlB jlx jms jlq jiS jiP l2 s2 hP hD hS hl hw
  obtain ⟨hCc, hPc, hDc, hFc⟩ := qac (ws' := (qa4A a0 jha jhj jjQ jjU jla jjy jkT jjT jaN jaC jbw jmw a1 jbF jb5 jhS jeF jcI jcU jbM jbF cyB jcq jkT cyI jl3 jjQ cyI jlB jjU cyI jlx jla cyI jms jjy cyI jlq jha cyI jiS jhj cyI jiP)) hP hD hS hA [0, 2, 3, 1, 5, 7, 8, 9, 4, 6] (by decide +kernel) rfl
  refine va_callv (va_runV (As := [.ref a1, .int s2]) (rest := []) ⟨hx, hb, hml, hown, hts⟩ (qadA l dC dI cyB cyI cyJ cyP a0 a1 jbF jkT jjQ jjU jla jjy jha jhj H.size (jjT) (.int jmw) (jcI) jb5 jcq jhS jeF jcU jbM jl3 jlB jlx jbw jms jlq jaC jiS jiP jaN s2 hw) (cwV 2 hts gX2_readFrom_X2_readClause rfl rfl rfl (by decide +kernel) ⟨nbq rfl, nbq rfl⟩) ⟨qat qsO, va_recv (q := (RX2, TX2, 12)) hK hPc (ci := 2) (q0 := 0) rfl rfl, qbg qsO hPc hK hDc hNw hY hE hS hFc⟩ rfl rfl hl.1 rfl (lv_room (nbq rfl)) (qaa qd3 10 rfl) ⟨nbq rfl, nbq rfl⟩) hS (fun q _ h => hFc q h) hFc (fun u t H1 locs ht hvm hw hB hz1 hk1 hS => ?_)
  obtain ⟨x12, x13, x14, x15, f16, f17, f18, x19, f20, f21, x22, f23, f24, x25⟩ := u
  obtain ⟨hP1, hK1, hD1⟩ := hB
  rw [ht] at hP1
  obtain ⟨hP, hD⟩ := qad (wr := []) (w1 := (qa4A a0 jha jhj jjQ jjU jla jjy jkT jjT x25 x22 x19 jmw a1 jbF jb5 x12 x13 jcI x14 x15 jbF cyB jcq jkT cyI f16 jjQ cyI f17 jjU cyI f18 jla cyI f20 jjy cyI f21 jha cyI f23 jhj cyI f24)) (wn := (qpJ a0 jha jhj jjQ jjU jla jjy jkT jjT x25 x22 x19 jmw jkT cyI f16 a1 jbF jb5 x12 x13 jcI x14 x15 jbF cyB jcq jha cyI f23 jjQ cyI f17 jhj cyI f24 jjU cyI f18 jla cyI f20 jjy cyI f21)) hP hD [0, 2, 3, 1, 5, 7, 8, 9, 4, 6] [] [0, 3, 1, 2, 8, 4, 9, 5, 6, 7] hCc rfl (by decide +kernel) (by decide +kernel) (by decide +kernel) rfl hk1 hFc hP1 hD1
  generalize H1 = H at hP hS ⊢
  obtain ⟨x26, ex26⟩ : ∃ y : Int32, y = l2 + 1 := ⟨_, rfl⟩
  have hw := hw x26 ex26
  refine lv_iinc (v := x26) (lv' := [(2, .int x26), (0, .ref a0), (1, .ref a1)]) hx hb (qaa qd3 11 rfl) hl (k := 2) rfl (by rw [ex26]; rfl) (by decide) rfl (fun ls hl => ?_)
  refine lv_goto (tgt := 41) hx hb (qaa qd3 12 rfl) (by decide) ?_
  exact hK41 _ _ _ x25 x22 x19 f16 x12 jmw x13 x14 x15 f17 f18 f20 f21 f23 f24 x26 hP hD hS (lv_sub hl [1, 2, 0] rfl) hw
set_option maxHeartbeats 4000000 in
set_option maxRecDepth 100000 in
theorem qF4 {p : Program} {l : Launch} {e : Env} {s : State} {m : MethodId} {args : Array Value} {below : List Frame} {meth : Method} {c : Code} {A : Nat → Prop} (dC : Nat → ClassId) (dI : Nat → Nat → Nat) (cyB cyI cyJ cyP : ClassId) (a0 a1 jkT jbF jha jjQ jhj jjU jla jjy : Nat) (jjT jcI : Value) (jb5 : Int32) (jcq : NI) (Q : Int32 → Int32 → Int32 → NI → Int32 → Int32 → Int32 → Int32 → Int32 → NI → NI → NI → NI → NI → NI → Prop) (C0 : cfx p s m args meth c cX2_readFrom none wsX2_readFrom RX2 3 A (dC, dI) (kT cyB cyI cyJ cyP) ∧ cfY l s A ∧ zE A s s.heap) : ∀ (H : Heap) (locs : List Loc) (ls : Array Slot) (jaN jaC jbw : Int32) (jl3 : NI) (jhS jmw jeF jcU jbM : Int32) (jlB jlx jms jlq jiS jiP : NI), va_P (dC, dI) vwCl (qpJ a0 jha jhj jjQ jjU jla jjy jkT jjT jaN jaC jbw jmw jkT cyI jl3 a1 jbF jb5 jhS jeF jcI jcU jbM jbF cyB jcq jha cyI jiS jjQ cyI jlB jhj cyI jiP jjU cyI jlx jla cyI jms jjy cyI jlq) H → va_D A (qpJ a0 jha jhj jjQ jjU jla jjy jkT jjT jaN jaC jbw jmw jkT cyI jl3 a1 jbF jb5 jhS jeF jcI jcU jbM jbF cyB jcq jha cyI jiS jjQ cyI jlB jhj cyI jiP jjU cyI jlx jla cyI jms jjy cyI jlq) → va_S A s.heap H locs → lv_has ls 3 [(0, .ref a0)] → qtj jb5 jcq Q jaN jaC jbw jl3 jhS jmw jeF jcU jbM jlB jlx jms jlq jiS jiP → W p l e (headSpec wsX2_readFrom ({ frames := 6, cells := 0, slots := 0, locals := 130 })).room s m args below meth c H locs 0 0 (MQ below (va_Qv (fun (u : Int32 × Int32 × Int32 × NI × Int32 × Int32 × Int32 × Int32 × Int32 × NI × NI × NI × NI × NI × NI) => Q u.1 u.2.1 u.2.2.1 u.2.2.2.1 u.2.2.2.2.1 u.2.2.2.2.2.1 u.2.2.2.2.2.2.1 u.2.2.2.2.2.2.2.1 u.2.2.2.2.2.2.2.2.1 u.2.2.2.2.2.2.2.2.2.1 u.2.2.2.2.2.2.2.2.2.2.1 u.2.2.2.2.2.2.2.2.2.2.2.1 u.2.2.2.2.2.2.2.2.2.2.2.2.1 u.2.2.2.2.2.2.2.2.2.2.2.2.2.1 u.2.2.2.2.2.2.2.2.2.2.2.2.2.2) (cB (dC, dI) (kT cyB cyI cyJ cyP) A (fun u : Int32 × Int32 × Int32 × NI × Int32 × Int32 × Int32 × Int32 × Int32 × NI × NI × NI × NI × NI × NI => ((qpJ a0 jha jhj jjQ jjU jla jjy jkT jjT u.1 u.2.1 u.2.2.1 u.2.2.2.2.2.1 jkT cyI u.2.2.2.1 a1 jbF jb5 u.2.2.2.2.1 u.2.2.2.2.2.2.1 jcI u.2.2.2.2.2.2.2.1 u.2.2.2.2.2.2.2.2.1 jbF cyB jcq jha cyI u.2.2.2.2.2.2.2.2.2.2.2.2.2.1 jjQ cyI u.2.2.2.2.2.2.2.2.2.1 jhj cyI u.2.2.2.2.2.2.2.2.2.2.2.2.2.2 jjU cyI u.2.2.2.2.2.2.2.2.2.2.1 jla cyI u.2.2.2.2.2.2.2.2.2.2.2.1 jjy cyI u.2.2.2.2.2.2.2.2.2.2.2.2.1) : va_W))) A) args s 0 0 A) (F0 m 83 ls []) := by
  obtain ⟨⟨hx, hb, hr, hts, hown, hlocks, hml, hA, hK, hNw⟩, hY, hE0⟩ := id C0
  have hE := hE0
  intro H locs ls jaN jaC jbw jl3 jhS jmw jeF jcU jbM jlB jlx jms jlq jiS jiP hP hD hS hl hw
  refine lv_aload_n hx hb (qaa qd3 13 rfl) rfl (lv_at hl 0 rfl) ?_
  obtain ⟨hCc, hPc, hDc, hFc⟩ := qac (ws' := (qa4D a0 jha jhj jjQ jjU jla jjy jkT jjT jaN jaC jbw jmw jha cyI jiS jjQ cyI jlB jhj cyI jiP jjU cyI jlx)) hP hD hS hA [0, 4, 5, 6, 7] (by decide +kernel) rfl
  refine va_callv (va_runV (As := []) (rest := []) ⟨hx, hb, hml, hown, hts⟩ (qaEK l dC dI cyB cyI cyJ cyP a0 jha jjQ jhj jjU H.size (.ref jla) (.ref jjy) (.ref jkT) (jjT) (.int jaC) jaN jbw jiS jlB jiP jlx jmw hw) (cwV 0 hts gX2_readFrom_X2_findSafe rfl rfl rfl (by decide +kernel) ⟨nbq rfl, nbq rfl⟩) ⟨qab, va_recv (q := (RX2, TX2, 12)) hK hPc (ci := 2) (q0 := 0) rfl rfl, qae hPc hK hDc hNw⟩ rfl rfl hl.1 rfl (lv_room (nbq rfl)) (qaa qd3 14 rfl) ⟨nbq rfl, nbq rfl⟩) hS (fun q _ h => hFc q h) hFc (fun u t H1 locs ht hvm hw hB hz1 hk1 hS => ?_)
  obtain ⟨x11, rfl⟩ : ∃ z, z = u := ⟨_, rfl⟩
  obtain ⟨hP1, hK1, hD1⟩ := hB
  rw [ht] at hP1
  obtain ⟨hP, hD⟩ := qad (wr := [(jkT, .inl (cyI, 36, .inl jl3)), (a1, .inr (8, [.ref jbF, .int jb5, .int jhS, .int jeF, jcI, .int jcU, .int jbM])), (jbF, .inl (cyB, 600, .inl jcq)), (jla, .inl (cyI, 6, .inl jms)), (jjy, .inl (cyI, 6, .inl jlq))]) (w1 := (qa4D a0 jha jhj jjQ jjU jla jjy jkT jjT jaN jaC jbw x11 jha cyI jiS jjQ cyI jlB jhj cyI jiP jjU cyI jlx)) (wn := (qpJ a0 jha jhj jjQ jjU jla jjy jkT jjT jaN jaC jbw x11 jkT cyI jl3 a1 jbF jb5 jhS jeF jcI jcU jbM jbF cyB jcq jha cyI jiS jjQ cyI jlB jhj cyI jiP jjU cyI jlx jla cyI jms jjy cyI jlq)) hP hD [0, 4, 5, 6, 7] [1, 2, 3, 8, 9] [5, 0, 1, 2, 6, 7, 8, 9, 3, 4] hCc rfl (by decide +kernel) (by decide +kernel) (by decide +kernel) rfl hk1 hFc hP1 hD1
  generalize H1 = H at hP hS ⊢
  exact ((W.vret hx hb hr (fun t ht hW => ⟨⟨(jaN, jaC, jbw, jl3, jhS, x11, jeF, jcU, jbM, jlB, jlx, jms, jlq, jiS, jiP), rfl, hw, by rw [ht]; exact hP, va_K.moved hW.alike hK, hD⟩, hS.F ht⟩) hS.2.2 (qaa qd3 15 rfl)))
set_option maxHeartbeats 4000000 in
set_option maxRecDepth 100000 in
theorem q9y {p : Program} {l : Launch} {e : Env} {s : State} {m : MethodId} {args : Array Value} {below : List Frame} {meth : Method} {c : Code} {A : Nat → Prop} (dC : Nat → ClassId) (dI : Nat → Nat → Nat) (cyB cyI cyJ cyP : ClassId) (a0 a1 jkT jbF jha jjQ jhj jjU jla jjy : Nat) (jjT jcI : Value) (jb5 : Int32) (jcq : NI) (Q : Int32 → Int32 → Int32 → NI → Int32 → Int32 → Int32 → Int32 → Int32 → NI → NI → NI → NI → NI → NI → Prop) (C0 : cfx p s m args meth c cX2_readFrom none wsX2_readFrom RX2 3 A (dC, dI) (kT cyB cyI cyJ cyP) ∧ cfY l s A ∧ zE A s s.heap) : ∀ (n : Nat) (H : Heap) (locs : List Loc) (ls : Array Slot) (jaN jaC jbw : Int32) (jl3 : NI) (jhS jmw jeF jcU jbM : Int32) (jlB jlx jms jlq jiS jiP : NI) (l2 : Int32), va_P (dC, dI) vwCl (qpJ a0 jha jhj jjQ jjU jla jjy jkT jjT jaN jaC jbw jmw jkT cyI jl3 a1 jbF jb5 jhS jeF jcI jcU jbM jbF cyB jcq jha cyI jiS jjQ cyI jlB jhj cyI jiP jjU cyI jlx jla cyI jms jjy cyI jlq) H → va_D A (qpJ a0 jha jhj jjQ jjU jla jjy jkT jjT jaN jaC jbw jmw jkT cyI jl3 a1 jbF jb5 jhS jeF jcI jcU jbM jbF cyB jcq jha cyI jiS jjQ cyI jlB jhj cyI jiP jjU cyI jlx jla cyI jms jjy cyI jlq) → va_S A s.heap H locs → lv_has ls 3 [(0, .ref a0), (1, .ref a1), (2, .int l2)] → qnC jb5 jcq Q n jaN jaC jbw jl3 jhS jmw jeF jcU jbM jlB jlx jms jlq jiS jiP l2 → W p l e (headSpec wsX2_readFrom ({ frames := 6, cells := 0, slots := 0, locals := 130 })).room s m args below meth c H locs 0 0 (MQ below (va_Qv (fun (u : Int32 × Int32 × Int32 × NI × Int32 × Int32 × Int32 × Int32 × Int32 × NI × NI × NI × NI × NI × NI) => Q u.1 u.2.1 u.2.2.1 u.2.2.2.1 u.2.2.2.2.1 u.2.2.2.2.2.1 u.2.2.2.2.2.2.1 u.2.2.2.2.2.2.2.1 u.2.2.2.2.2.2.2.2.1 u.2.2.2.2.2.2.2.2.2.1 u.2.2.2.2.2.2.2.2.2.2.1 u.2.2.2.2.2.2.2.2.2.2.2.1 u.2.2.2.2.2.2.2.2.2.2.2.2.1 u.2.2.2.2.2.2.2.2.2.2.2.2.2.1 u.2.2.2.2.2.2.2.2.2.2.2.2.2.2) (cB (dC, dI) (kT cyB cyI cyJ cyP) A (fun u : Int32 × Int32 × Int32 × NI × Int32 × Int32 × Int32 × Int32 × Int32 × NI × NI × NI × NI × NI × NI => ((qpJ a0 jha jhj jjQ jjU jla jjy jkT jjT u.1 u.2.1 u.2.2.1 u.2.2.2.2.2.1 jkT cyI u.2.2.2.1 a1 jbF jb5 u.2.2.2.2.1 u.2.2.2.2.2.2.1 jcI u.2.2.2.2.2.2.2.1 u.2.2.2.2.2.2.2.2.1 jbF cyB jcq jha cyI u.2.2.2.2.2.2.2.2.2.2.2.2.2.1 jjQ cyI u.2.2.2.2.2.2.2.2.2.1 jhj cyI u.2.2.2.2.2.2.2.2.2.2.2.2.2.2 jjU cyI u.2.2.2.2.2.2.2.2.2.2.1 jla cyI u.2.2.2.2.2.2.2.2.2.2.2.1 jjy cyI u.2.2.2.2.2.2.2.2.2.2.2.2.1) : va_W))) A) args s 0 0 A) (F0 m 41 ls []) := by
  obtain ⟨⟨hx, hb, hr, hts, hown, hlocks, hml, hA, hK, hNw⟩, hY, hE0⟩ := id C0
  have hE := hE0
  intro n
  induction n with
  | zero => intro H locs ls jaN jaC jbw jl3 jhS jmw jeF jcU jbM jlB jlx jms jlq jiS jiP l2 hP hD hS hl hw; exact False.elim hw
  | succ n ih =>
    intro H locs ls jaN jaC jbw jl3 jhS jmw jeF jcU jbM jlB jlx jms jlq jiS jiP l2 hP hD hS hl hw
    refine lv_iload_n hx hb (qaa qd0 9 rfl) rfl (lv_at hl 2 rfl) ?_
    refine lv_bipush (v := 60) hx hb (qaa qd0 10 rfl) (by decide) ?_
    refine lv_icmp_gt (tgt := 83) hx hb (qaa qd0 11 rfl) (by decide) (fun c4 => ?_) (fun c4 => ?_)
    · have hw := hw.1 c4
      exact qF4 dC dI cyB cyI cyJ cyP a0 a1 jkT jbF jha jjQ jhj jjU jla jjy jjT jcI jb5 jcq Q C0 _ _ _ jaN jaC jbw jl3 jhS jmw jeF jcU jbM jlB jlx jms jlq jiS jiP hP hD hS (lv_sub hl [0] rfl) hw
    · have hw := hw.2 c4
      refine lv_aload_n hx hb (qaa qd0 12 rfl) rfl (lv_at hl 1 rfl) ?_
      obtain ⟨hCc, hPc, hDc, hFc⟩ := qac (ws' := (qa46 a1 jbF jb5 jhS jeF jcI jcU jbM)) hP hD hS hA [2] (by decide +kernel) rfl
      refine va_calli (va_runV (As := []) (rest := []) ⟨hx, hb, hml, hown, hts⟩ (qkj l dC dI cyB cyI cyJ cyP a1 H.size (.ref jbF) (.int jb5) (.int jhS) (.int jeF) (jcI) (.int jbM) jcU hw) (cwV 0 hts gX2_readFrom_X8_isFaulty rfl rfl rfl (by decide +kernel) ⟨nbq rfl, nbq rfl⟩) ⟨qab, va_recv (q := (RX8, TX8, 7)) hK hPc (ci := 8) (q0 := 0) rfl rfl, qae hPc hK hDc hNw⟩ rfl rfl hl.1 rfl (lv_room (nbq rfl)) (qaa qd0 13 rfl) ⟨nbq rfl, nbq rfl⟩) hS (fun q _ h => hFc q h) hFc (fun r5 u t H1 locs ht hvm hw hB hz1 hk1 hS => ?_)
      obtain ⟨hP1, hK1, hD1⟩ := hB
      rw [ht] at hP1
      obtain ⟨hP, hD⟩ := qad (wr := [(a0, .inr (2, [.ref jha, .ref jhj, .ref jjQ, .ref jjU, .ref jla, .ref jjy, .ref jkT, jjT, .int jaN, .int jaC, .int jbw, .int jmw])), (jkT, .inl (cyI, 36, .inl jl3)), (jbF, .inl (cyB, 600, .inl jcq)), (jha, .inl (cyI, 8, .inl jiS)), (jjQ, .inl (cyI, 4, .inl jlB)), (jhj, .inl (cyI, 8, .inl jiP)), (jjU, .inl (cyI, 4, .inl jlx)), (jla, .inl (cyI, 6, .inl jms)), (jjy, .inl (cyI, 6, .inl jlq))]) (w1 := (qa46 a1 jbF jb5 jhS jeF jcI jcU jbM)) (wn := (qpJ a0 jha jhj jjQ jjU jla jjy jkT jjT jaN jaC jbw jmw jkT cyI jl3 a1 jbF jb5 jhS jeF jcI jcU jbM jbF cyB jcq jha cyI jiS jjQ cyI jlB jhj cyI jiP jjU cyI jlx jla cyI jms jjy cyI jlq)) hP hD [2] [0, 1, 3, 4, 5, 6, 7, 8, 9] [0, 1, 9, 2, 3, 4, 5, 6, 7, 8] hCc rfl (by decide +kernel) (by decide +kernel) (by decide +kernel) rfl hk1 hFc hP1 hD1
      generalize H1 = H at hP hS ⊢
      refine lv_if_ne (tgt := 83) hx hb (qaa qd0 14 rfl) (by decide) (fun c6 => ?_) (fun c6 => ?_)
      · have hw := hw.1 c6
        exact qF4 dC dI cyB cyI cyJ cyP a0 a1 jkT jbF jha jjQ jhj jjU jla jjy jjT jcI jb5 jcq Q C0 _ _ _ jaN jaC jbw jl3 jhS jmw jeF jcU jbM jlB jlx jms jlq jiS jiP hP hD hS (lv_sub hl [0] rfl) hw
      · have hw := hw.2 c6
        refine lv_aload_n hx hb (qaa qd0 15 rfl) rfl (lv_at hl 1 rfl) ?_
        obtain ⟨hCc, hPc, hDc, hFc⟩ := qac (ws' := (qqZ a1 jbF jb5 jhS jeF jcI jcU jbM jbF cyB jcq)) hP hD hS hA [2, 3] (by decide +kernel) rfl
        refine va_calli (va_runV (As := []) (rest := []) ⟨hx, hb, hml, hown, hts⟩ (qN1 l dC dI cyB cyI cyJ cyP a1 jbF H.size (.int jeF) (jcI) (.int jcU) (.int jbM) jb5 jcq jhS hw) (cwV 0 hts gX2_readFrom_X8_isEnded rfl rfl rfl (by decide +kernel) ⟨nbq rfl, nbq rfl⟩) ⟨qab, va_recv (q := (RX8, TX8, 7)) hK hPc (ci := 8) (q0 := 0) rfl rfl, qae hPc hK hDc hNw⟩ rfl rfl hl.1 rfl (lv_room (nbq rfl)) (qaa qd3 0 rfl) ⟨nbq rfl, nbq rfl⟩) hS (fun q _ h => hFc q h) hFc (fun r8 u t H1 locs ht hvm hw hB hz1 hk1 hS => ?_)
        obtain ⟨x7, rfl⟩ : ∃ z, z = u := ⟨_, rfl⟩
        obtain ⟨hP1, hK1, hD1⟩ := hB
        rw [ht] at hP1
        obtain ⟨hP, hD⟩ := qad (wr := [(a0, .inr (2, [.ref jha, .ref jhj, .ref jjQ, .ref jjU, .ref jla, .ref jjy, .ref jkT, jjT, .int jaN, .int jaC, .int jbw, .int jmw])), (jkT, .inl (cyI, 36, .inl jl3)), (jha, .inl (cyI, 8, .inl jiS)), (jjQ, .inl (cyI, 4, .inl jlB)), (jhj, .inl (cyI, 8, .inl jiP)), (jjU, .inl (cyI, 4, .inl jlx)), (jla, .inl (cyI, 6, .inl jms)), (jjy, .inl (cyI, 6, .inl jlq))]) (w1 := (qqZ a1 jbF jb5 x7 jeF jcI jcU jbM jbF cyB jcq)) (wn := (qpJ a0 jha jhj jjQ jjU jla jjy jkT jjT jaN jaC jbw jmw jkT cyI jl3 a1 jbF jb5 x7 jeF jcI jcU jbM jbF cyB jcq jha cyI jiS jjQ cyI jlB jhj cyI jiP jjU cyI jlx jla cyI jms jjy cyI jlq)) hP hD [2, 3] [0, 1, 4, 5, 6, 7, 8, 9] [0, 1, 8, 9, 2, 3, 4, 5, 6, 7] hCc rfl (by decide +kernel) (by decide +kernel) (by decide +kernel) rfl hk1 hFc hP1 hD1
        generalize H1 = H at hP hS ⊢
        refine lv_if_ne (tgt := 83) hx hb (qaa qd3 1 rfl) (by decide) (fun c9 => ?_) (fun c9 => ?_)
        · have hw := hw.1 c9
          exact qF4 dC dI cyB cyI cyJ cyP a0 a1 jkT jbF jha jjQ jhj jjU jla jjy jjT jcI jb5 jcq Q C0 _ _ _ jaN jaC jbw jl3 x7 jmw jeF jcU jbM jlB jlx jms jlq jiS jiP hP hD hS (lv_sub hl [0] rfl) hw
        · have hw := hw.2 c9
          refine lv_aload_n hx hb (qaa qd3 2 rfl) rfl (lv_at hl 0 rfl) ?_
          refine lv_aload_n hx hb (qaa qd3 3 rfl) rfl (lv_at hl 1 rfl) ?_
          refine lv_iload_n hx hb (qaa qd3 4 rfl) rfl (lv_at hl 2 rfl) ?_
          refine lv_bipush (v := 60) hx hb (qaa qd3 5 rfl) (by decide) ?_
          refine lv_icmp_ne (tgt := 73) hx hb (qaa qd3 6 rfl) (by decide) (fun c10 => ?_) (fun c10 => ?_)
          · have hw := hw.1 c10
            refine lv_iconst (v := 0) hx hb (qaa qd3 9 rfl) (by decide) ?_
            exact qQk dC dI cyB cyI cyJ cyP a0 a1 jkT jbF jha jjQ jhj jjU jla jjy jjT jcI jb5 jcq Q (qnC jb5 jcq Q n) ih C0 _ _ _ jaN jaC jbw jl3 x7 jmw jeF jcU jbM jlB jlx jms jlq jiS jiP l2 0 hP hD hS (lv_sub hl [0, 1, 2] rfl) hw
          · have hw := hw.2 c10
            refine lv_iconst (v := 1) hx hb (qaa qd3 7 rfl) (by decide) ?_
            refine lv_goto (tgt := 74) hx hb (qaa qd3 8 rfl) (by decide) ?_
            exact qQk dC dI cyB cyI cyJ cyP a0 a1 jkT jbF jha jjQ jhj jjU jla jjy jjT jcI jb5 jcq Q (qnC jb5 jcq Q n) ih C0 _ _ _ jaN jaC jbw jl3 x7 jmw jeF jcU jbM jlB jlx jms jlq jiS jiP l2 1 hP hD hS (lv_sub hl [0, 1, 2] rfl) hw
set_option maxHeartbeats 4000000 in
set_option maxRecDepth 100000 in
theorem qacp {p : Program} {l : Launch} {e : Env} {s : State} {m : MethodId} {args : Array Value} {below : List Frame} {meth : Method} {c : Code} {A : Nat → Prop} (dC : Nat → ClassId) (dI : Nat → Nat → Nat) (cyB cyI cyJ cyP : ClassId) (a0 a1 jkT jbF jha jjQ jhj jjU jla jjy : Nat) (jjT jcI : Value) (jb5 : Int32) (jcq : NI) (Q : Int32 → Int32 → Int32 → NI → Int32 → Int32 → Int32 → Int32 → Int32 → NI → NI → NI → NI → NI → NI → Prop) (C0 : cfx p s m args meth c cX2_readFrom none wsX2_readFrom RX2 3 A (dC, dI) (kT cyB cyI cyJ cyP) ∧ cfY l s A ∧ zE A s s.heap) : ∀ (n : Nat) (H : Heap) (locs : List Loc) (ls : Array Slot) (jaN jaC jbw : Int32) (jl3 : NI) (jhS jmw jeF jcU jbM : Int32) (jlB jlx jms jlq jiS jiP : NI) (l2 : Int32), va_P (dC, dI) vwCl (qpJ a0 jha jhj jjQ jjU jla jjy jkT jjT jaN jaC jbw jmw jkT cyI jl3 a1 jbF jb5 jhS jeF jcI jcU jbM jbF cyB jcq jha cyI jiS jjQ cyI jlB jhj cyI jiP jjU cyI jlx jla cyI jms jjy cyI jlq) H → va_D A (qpJ a0 jha jhj jjQ jjU jla jjy jkT jjT jaN jaC jbw jmw jkT cyI jl3 a1 jbF jb5 jhS jeF jcI jcU jbM jbF cyB jcq jha cyI jiS jjQ cyI jlB jhj cyI jiP jjU cyI jlx jla cyI jms jjy cyI jlq) → va_S A s.heap H locs → lv_has ls 3 [(0, .ref a0), (1, .ref a1), (2, .int l2)] → qzW jb5 jcq Q n jaN jaC jbw jl3 jhS jmw jeF jcU jbM jlB jlx jms jlq jiS jiP l2 → W p l e (headSpec wsX2_readFrom ({ frames := 6, cells := 0, slots := 0, locals := 130 })).room s m args below meth c H locs 0 0 (MQ below (va_Qv (fun (u : Int32 × Int32 × Int32 × NI × Int32 × Int32 × Int32 × Int32 × Int32 × NI × NI × NI × NI × NI × NI) => Q u.1 u.2.1 u.2.2.1 u.2.2.2.1 u.2.2.2.2.1 u.2.2.2.2.2.1 u.2.2.2.2.2.2.1 u.2.2.2.2.2.2.2.1 u.2.2.2.2.2.2.2.2.1 u.2.2.2.2.2.2.2.2.2.1 u.2.2.2.2.2.2.2.2.2.2.1 u.2.2.2.2.2.2.2.2.2.2.2.1 u.2.2.2.2.2.2.2.2.2.2.2.2.1 u.2.2.2.2.2.2.2.2.2.2.2.2.2.1 u.2.2.2.2.2.2.2.2.2.2.2.2.2.2) (cB (dC, dI) (kT cyB cyI cyJ cyP) A (fun u : Int32 × Int32 × Int32 × NI × Int32 × Int32 × Int32 × Int32 × Int32 × NI × NI × NI × NI × NI × NI => ((qpJ a0 jha jhj jjQ jjU jla jjy jkT jjT u.1 u.2.1 u.2.2.1 u.2.2.2.2.2.1 jkT cyI u.2.2.2.1 a1 jbF jb5 u.2.2.2.2.1 u.2.2.2.2.2.2.1 jcI u.2.2.2.2.2.2.2.1 u.2.2.2.2.2.2.2.2.1 jbF cyB jcq jha cyI u.2.2.2.2.2.2.2.2.2.2.2.2.2.1 jjQ cyI u.2.2.2.2.2.2.2.2.2.1 jhj cyI u.2.2.2.2.2.2.2.2.2.2.2.2.2.2 jjU cyI u.2.2.2.2.2.2.2.2.2.2.1 jla cyI u.2.2.2.2.2.2.2.2.2.2.2.1 jjy cyI u.2.2.2.2.2.2.2.2.2.2.2.2.1) : va_W))) A) args s 0 0 A) (F0 m 17 ls []) := by
  obtain ⟨⟨hx, hb, hr, hts, hown, hlocks, hml, hA, hK, hNw⟩, hY, hE0⟩ := id C0
  have hE := hE0
  intro n
  induction n with
  | zero => intro H locs ls jaN jaC jbw jl3 jhS jmw jeF jcU jbM jlB jlx jms jlq jiS jiP l2 hP hD hS hl hw; exact False.elim hw
  | succ n ih =>
    intro H locs ls jaN jaC jbw jl3 jhS jmw jeF jcU jbM jlB jlx jms jlq jiS jiP l2 hP hD hS hl hw
    refine lv_iload_n hx hb (qaa qfn 11 rfl) rfl (lv_at hl 2 rfl) ?_
    refine lv_aload_n hx hb (qaa qfn 12 rfl) rfl (lv_at hl 0 rfl) ?_
    refine va_get (D := (dC, dI)) (ci := 2) (v := .ref jkT) (C := RX2) (T := TX2) (N := 12) hx hb hts qvP hown hK hP 0 rfl rfl 6 (by decide) (hts _ qNq) (fun _ h9 => h9) rfl (qaa qfn 13 rfl) ?_
    refine va_alen (v := 36) hx hb hK hP 1 1 rfl rfl rfl (qaa qfn 14 rfl) ?_
    refine lv_icmp_ge (tgt := 39) hx hb (qaa qfn 15 rfl) (by decide) (fun c1 => ?_) (fun c1 => ?_)
    · have hw := hw.1 c1
      refine lv_iconst (v := 0) hx hb (qaa qd0 7 rfl) (by decide) ?_
      refine lv_istore_n (lv' := [(2, .int 0), (0, .ref a0), (1, .ref a1)]) hx hb (qaa qd0 8 rfl) rfl hl (by decide) rfl (fun ls hl => ?_)
      obtain ⟨n9, hw⟩ := hw
      exact q9y dC dI cyB cyI cyJ cyP a0 a1 jkT jbF jha jjQ jhj jjU jla jjy jjT jcI jb5 jcq Q C0 n9 _ _ _ jaN jaC jbw jl3 jhS jmw jeF jcU jbM jlB jlx jms jlq jiS jiP 0 hP hD hS (lv_sub hl [1, 2, 0] rfl) hw
    · have hw := hw.2 c1
      refine lv_aload_n hx hb (qaa qd0 0 rfl) rfl (lv_at hl 0 rfl) ?_
      refine va_get (D := (dC, dI)) (ci := 2) (v := .ref jkT) (C := RX2) (T := TX2) (N := 12) hx hb hts qvP hown hK hP 0 rfl rfl 6 (by decide) (hts _ qNq) (fun _ h9 => h9) rfl (qaa qd0 1 rfl) ?_
      refine lv_iload_n hx hb (qaa qd0 2 rfl) rfl (lv_at hl 2 rfl) ?_
      refine lv_iconst (v := 0) hx hb (qaa qd0 3 rfl) (by decide) ?_
      obtain ⟨hi9, hw⟩ := hw
      refine va_iast hx hb hK hP hD hS 1 1 rfl rfl hi9 (qaa qd0 4 rfl) (fun H locs hP hD hS => ?_)
      obtain ⟨f2, ef2⟩ : ∃ y : NI, y = upd jl3 l2.toNatClampNeg 0 := ⟨_, rfl⟩
      have hw := hw f2 ef2
      have hP : va_P (dC, dI) vwCl (qpJ a0 jha jhj jjQ jjU jla jjy jkT jjT jaN jaC jbw jmw jkT cyI f2 a1 jbF jb5 jhS jeF jcI jcU jbM jbF cyB jcq jha cyI jiS jjQ cyI jlB jhj cyI jiP jjU cyI jlx jla cyI jms jjy cyI jlq) H := by rw [ef2]; exact hP
      have hD : va_D A (qpJ a0 jha jhj jjQ jjU jla jjy jkT jjT jaN jaC jbw jmw jkT cyI f2 a1 jbF jb5 jhS jeF jcI jcU jbM jbF cyB jcq jha cyI jiS jjQ cyI jlB jhj cyI jiP jjU cyI jlx jla cyI jms jjy cyI jlq) := by rw [ef2]; exact hD
      obtain ⟨x3, ex3⟩ : ∃ y : Int32, y = l2 + 1 := ⟨_, rfl⟩
      have hw := hw x3 ex3
      refine lv_iinc (v := x3) (lv' := [(2, .int x3), (0, .ref a0), (1, .ref a1)]) hx hb (qaa qd0 5 rfl) hl (k := 2) rfl (by rw [ex3]; rfl) (by decide) rfl (fun ls hl => ?_)
      refine lv_goto (tgt := 17) hx hb (qaa qd0 6 rfl) (by decide) ?_
      exact ih _ _ _ jaN jaC jbw f2 jhS jmw jeF jcU jbM jlB jlx jms jlq jiS jiP x3 hP hD hS (lv_sub hl [1, 2, 0] rfl) hw
set_option maxHeartbeats 4000000 in
set_option maxRecDepth 100000 in
theorem qapv (l : Launch) (dC : Nat → ClassId) (dI : Nat → Nat → Nat) (cyB cyI cyJ cyP : ClassId) (a0 a1 jkT jbF jha jjQ jhj jjU jla jjy sz : Nat) (jjT jcI : Value) (jb5 : Int32) (jcq : NI) (jaN jaC jbw : Int32) (jl3 : NI) (jhS jmw jeF jcU jbM : Int32) (jlB jlx jms jlq jiS jiP : NI) {Q : Int32 → Int32 → Int32 → NI → Int32 → Int32 → Int32 → Int32 → Int32 → NI → NI → NI → NI → NI → NI → Prop} (hw : qL6 jb5 jcq jaN jaC jbw jl3 jhS jmw jeF jcU jbM jlB jlx jms jlq jiS jiP Q) : Met l yX2_readFrom wsX2_readFrom ({ frames := 6, cells := 0, slots := 0, locals := 130 }) (va_Pc [.ref a0, .ref a1] (cPs (zE) l (dC, dI) (kT cyB cyI cyJ cyP) (qpJ a0 jha jhj jjQ jjU jla jjy jkT jjT jaN jaC jbw jmw jkT cyI jl3 a1 jbF jb5 jhS jeF jcI jcU jbM jbF cyB jcq jha cyI jiS jjQ cyI jlB jhj cyI jiP jjU cyI jlx jla cyI jms jjy cyI jlq) sz)) (va_Qv (fun (u : Int32 × Int32 × Int32 × NI × Int32 × Int32 × Int32 × Int32 × Int32 × NI × NI × NI × NI × NI × NI) => Q u.1 u.2.1 u.2.2.1 u.2.2.2.1 u.2.2.2.2.1 u.2.2.2.2.2.1 u.2.2.2.2.2.2.1 u.2.2.2.2.2.2.2.1 u.2.2.2.2.2.2.2.2.1 u.2.2.2.2.2.2.2.2.2.1 u.2.2.2.2.2.2.2.2.2.2.1 u.2.2.2.2.2.2.2.2.2.2.2.1 u.2.2.2.2.2.2.2.2.2.2.2.2.1 u.2.2.2.2.2.2.2.2.2.2.2.2.2.1 u.2.2.2.2.2.2.2.2.2.2.2.2.2.2) (cB (dC, dI) (kT cyB cyI cyJ cyP) (va_A (qpJ a0 jha jhj jjQ jjU jla jjy jkT jjT jaN jaC jbw jmw jkT cyI jl3 a1 jbF jb5 jhS jeF jcI jcU jbM jbF cyB jcq jha cyI jiS jjQ cyI jlB jhj cyI jiP jjU cyI jlx jla cyI jms jjy cyI jlq) sz) (fun u : Int32 × Int32 × Int32 × NI × Int32 × Int32 × Int32 × Int32 × Int32 × NI × NI × NI × NI × NI × NI => ((qpJ a0 jha jhj jjQ jjU jla jjy jkT jjT u.1 u.2.1 u.2.2.1 u.2.2.2.2.2.1 jkT cyI u.2.2.2.1 a1 jbF jb5 u.2.2.2.2.1 u.2.2.2.2.2.2.1 jcI u.2.2.2.2.2.2.2.1 u.2.2.2.2.2.2.2.2.1 jbF cyB jcq jha cyI u.2.2.2.2.2.2.2.2.2.2.2.2.2.1 jjQ cyI u.2.2.2.2.2.2.2.2.2.1 jhj cyI u.2.2.2.2.2.2.2.2.2.2.2.2.2.2 jjU cyI u.2.2.2.2.2.2.2.2.2.2.1 jla cyI u.2.2.2.2.2.2.2.2.2.2.2.1 jjy cyI u.2.2.2.2.2.2.2.2.2.2.2.2.1) : va_W))) (va_A (qpJ a0 jha jhj jjQ jjU jla jjy jkT jjT jaN jaC jbw jmw jkT cyI jl3 a1 jbF jb5 jhS jeF jcI jcU jbM jbF cyB jcq jha cyI jiS jjQ cyI jlB jhj cyI jiP jjU cyI jlx jla cyI jms jjy cyI jlq) sz)) 0 0 (va_A (qpJ a0 jha jhj jjQ jjU jla jjy jkT jjT jaN jaC jbw jmw jkT cyI jl3 a1 jbF jb5 jhS jeF jcI jcU jbM jbF cyB jcq jha cyI jiS jjQ cyI jlB jhj cyI jiP jjU cyI jlx jla cyI jms jjy cyI jlq) sz) := by
  refine Met.ofW (cc := cX2_readFrom) (maxL := 3) (ret := none) (by decide) rfl ?_
  intro p e s m args below meth c s₁ B hml hv
  obtain ⟨rfl, ⟨hsz, hP, hK, hD0, hNw, hXl, hXu, hXn, hXt⟩, hE0⟩ := hv
  have hx := B.exec
  have hb := B.bytes
  have hr := B.returns
  have hts := atoms_spec (ws := wsX2_readFrom) B.pre
  have hown : s.vm.findClass RX2 = some m.cls := findClass_of_methodNamed B.named
  have hlocks := B.notSynchronized
  subst hsz
  have hD := hD0.self (sz := s.heap.size)
  generalize hAe : va_A (qpJ a0 jha jhj jjQ jjU jla jjy jkT jjT jaN jaC jbw jmw jkT cyI jl3 a1 jbF jb5 jhS jeF jcI jcU jbM jbF cyB jcq jha cyI jiS jjQ cyI jlB jhj cyI jiP jjU cyI jlx jla cyI jms jjy cyI jlq) s.heap.size = A at hD hXu hXn hE0 ⊢
  have hA : ∀ q : Nat, s.heap.size ≤ q → A q := fun q h => by rw [← hAe]; exact Or.inr h
  have hS : va_S A s.heap s.heap [] := va_S.rf
  have hP : va_P (dC, dI) vwCl (qpJ a0 jha jhj jjQ jjU jla jjy jkT jjT jaN jaC jbw jmw jkT cyI jl3 a1 jbF jb5 jhS jeF jcI jcU jbM jbF cyB jcq jha cyI jiS jjQ cyI jlB jhj cyI jiP jjU cyI jlx jla cyI jms jjy cyI jlq) s.heap := hP
  have hl := lv_entry ([.ref a0, .ref a1]) (n := 3) (nbq rfl)
  rw [lg_entry_eq]
  generalize (lg_sl ([.ref a0, .ref a1]) ++ List.replicate (3 - (lg_sl ([.ref a0, .ref a1])).length) Slot.unset).toArray = ls at hl ⊢
  have hl : lv_has ls 3 [(0, .ref a0), (1, .ref a1)] := hl
  have hY : cfY l s A := ⟨hXl, hXu, hXn, hXt⟩
  have C0 : cfx p s m _ meth c cX2_readFrom none wsX2_readFrom RX2 3 A (dC, dI) (kT cyB cyI cyJ cyP) ∧ cfY l s A ∧ zE A s s.heap := ⟨⟨hx, hb, hr, hts, hown, hlocks, hml, hA, hK, hNw⟩, hY, hE0⟩
  have hE := hE0
  clear hAe
  obtain ⟨H, hH⟩ : ∃ H, H = s.heap := ⟨_, rfl⟩
  rw [← hH] at hP ⊢
  have hS : va_S A s.heap H [] := by rw [hH]; exact va_S.rf
  have hS := hS
  refine lv_aload_n hx hb (qaa qfn 0 rfl) rfl (lv_at hl 0 rfl) ?_
  refine lv_iconst (v := 0) hx hb (qaa qfn 1 rfl) (by decide) ?_
  refine va_put (D := (dC, dI)) (ci := 2) (v := .int 0) (ty := .int) (C := RX2) (T := TX2) (N := 12) hx hb hts qvP tyX2 tyX2_ok nmX2 hown hK hP hD hS 0 rfl rfl 8 (by decide) (hts _ q7b) (fun _ h9 => h9) rfl (by decide +kernel) rfl rfl (nbq rfl) (qaa qfn 2 rfl) (fun H locs hP hD hS => ?_)
  have hP : va_P (dC, dI) vwCl (qpJ a0 jha jhj jjQ jjU jla jjy jkT jjT 0 jaC jbw jmw jkT cyI jl3 a1 jbF jb5 jhS jeF jcI jcU jbM jbF cyB jcq jha cyI jiS jjQ cyI jlB jhj cyI jiP jjU cyI jlx jla cyI jms jjy cyI jlq) H := hP
  have hD : va_D A (qpJ a0 jha jhj jjQ jjU jla jjy jkT jjT 0 jaC jbw jmw jkT cyI jl3 a1 jbF jb5 jhS jeF jcI jcU jbM jbF cyB jcq jha cyI jiS jjQ cyI jlB jhj cyI jiP jjU cyI jlx jla cyI jms jjy cyI jlq) := hD
  refine lv_aload_n hx hb (qaa qfn 3 rfl) rfl (lv_at hl 0 rfl) ?_
  refine lv_iconst (v := 0) hx hb (qaa qfn 4 rfl) (by decide) ?_
  refine va_put (D := (dC, dI)) (ci := 2) (v := .int 0) (ty := .int) (C := RX2) (T := TX2) (N := 12) hx hb hts qvP tyX2 tyX2_ok nmX2 hown hK hP hD hS 0 rfl rfl 9 (by decide) (hts _ q50) (fun _ h9 => h9) rfl (by decide +kernel) rfl rfl (nbq rfl) (qaa qfn 5 rfl) (fun H locs hP hD hS => ?_)
  have hP : va_P (dC, dI) vwCl (qpJ a0 jha jhj jjQ jjU jla jjy jkT jjT 0 0 jbw jmw jkT cyI jl3 a1 jbF jb5 jhS jeF jcI jcU jbM jbF cyB jcq jha cyI jiS jjQ cyI jlB jhj cyI jiP jjU cyI jlx jla cyI jms jjy cyI jlq) H := hP
  have hD : va_D A (qpJ a0 jha jhj jjQ jjU jla jjy jkT jjT 0 0 jbw jmw jkT cyI jl3 a1 jbF jb5 jhS jeF jcI jcU jbM jbF cyB jcq jha cyI jiS jjQ cyI jlB jhj cyI jiP jjU cyI jlx jla cyI jms jjy cyI jlq) := hD
  refine lv_aload_n hx hb (qaa qfn 6 rfl) rfl (lv_at hl 0 rfl) ?_
  refine lv_iconst (v := 0) hx hb (qaa qfn 7 rfl) (by decide) ?_
  refine va_put (D := (dC, dI)) (ci := 2) (v := .int 0) (ty := .int) (C := RX2) (T := TX2) (N := 12) hx hb hts qvP tyX2 tyX2_ok nmX2 hown hK hP hD hS 0 rfl rfl 10 (by decide) (hts _ q5N) (fun _ h9 => h9) rfl (by decide +kernel) rfl rfl (nbq rfl) (qaa qfn 8 rfl) (fun H locs hP hD hS => ?_)
  have hP : va_P (dC, dI) vwCl (qpJ a0 jha jhj jjQ jjU jla jjy jkT jjT 0 0 0 jmw jkT cyI jl3 a1 jbF jb5 jhS jeF jcI jcU jbM jbF cyB jcq jha cyI jiS jjQ cyI jlB jhj cyI jiP jjU cyI jlx jla cyI jms jjy cyI jlq) H := hP
  have hD : va_D A (qpJ a0 jha jhj jjQ jjU jla jjy jkT jjT 0 0 0 jmw jkT cyI jl3 a1 jbF jb5 jhS jeF jcI jcU jbM jbF cyB jcq jha cyI jiS jjQ cyI jlB jhj cyI jiP jjU cyI jlx jla cyI jms jjy cyI jlq) := hD
  refine lv_iconst (v := 0) hx hb (qaa qfn 9 rfl) (by decide) ?_
  refine lv_istore_n (lv' := [(2, .int 0), (0, .ref a0), (1, .ref a1)]) hx hb (qaa qfn 10 rfl) rfl hl (by decide) rfl (fun ls hl => ?_)
  obtain ⟨n9, hw⟩ := hw
  exact qacp dC dI cyB cyI cyJ cyP a0 a1 jkT jbF jha jjQ jhj jjU jla jjy jjT jcI jb5 jcq Q C0 n9 _ _ _ 0 0 0 jl3 jhS jmw jeF jcU jbM jlB jlx jms jlq jiS jiP 0 hP hD hS (lv_sub hl [1, 2, 0] rfl) hw
theorem qdD : ∀ w ∈ u_ws RX10 TX10 19, w ∈ wsX10_down := uiM qh0 qyN (by decide +kernel)
theorem qar6 : ∀ w ∈ u_ws RX2 TX2 12, w ∈ wsX10_down := uiM qh0 qLp (by decide +kernel)
theorem qary : ∀ w ∈ u_ws RX5 TX5 2, w ∈ wsX10_down := uiM qh0 euX5 (by decide +kernel)
theorem qass : ∀ w ∈ u_ws RX8 TX8 7, w ∈ wsX10_down := uiM qh0 euX8 (by decide +kernel)
theorem qJ6 : (.fieldLink RX10 10 "MarchHares" "tape" "LMarchHares$Tape;" : Cond) ∈ wsX10_down := qh0 16 (by decide +kernel)
theorem qafr : (.fieldLink RX10 120 "MarchHares$Tape" "fault" "I" : Cond) ∈ wsX10_down := qh0 640 (by decide +kernel)
theorem qafU : (.fieldLink RX10 132 "MarchHares$Past" "kept" "I" : Cond) ∈ wsX10_down := qh0 641 (by decide +kernel)
theorem qadk : (.fieldLink RX10 135 "MarchHares" "imagesKept" "I" : Cond) ∈ wsX10_down := qh0 642 (by decide +kernel)
theorem qahS : (.fieldLink RX10 138 "MarchHares" "refusedSteps" "I" : Cond) ∈ wsX10_down := qh0 643 (by decide +kernel)
theorem qafk : (.fieldLink RX10 141 "MarchHares$Down" "hares" "I" : Cond) ∈ wsX10_down := qh0 644 (by decide +kernel)
theorem qC4 : (.fieldLink RX10 19 "MarchHares" "ground" "LMarchHares$Down;" : Cond) ∈ wsX10_down := qh0 20 (by decide +kernel)
theorem qKg : (.fieldLink RX10 23 "MarchHares" "spareGround" "LMarchHares$Down;" : Cond) ∈ wsX10_down := qh0 21 (by decide +kernel)
theorem qVG : (.fieldLink RX10 29 "MarchHares" "rule" "LMarchHares$Law;" : Cond) ∈ wsX10_down := qh0 65 (by decide +kernel)
theorem qakZ : (.fieldLink RX10 39 "MarchHares" "lines" "LMarchHares$Book;" : Cond) ∈ wsX10_down := qh0 70 (by decide +kernel)
theorem qall : (.fieldLink RX10 58 "MarchHares" "now" "LMarchHares$Days;" : Cond) ∈ wsX10_down := qh0 79 (by decide +kernel)
theorem qais : (.fieldLink RX10 68 "MarchHares" "past" "LMarchHares$Past;" : Cond) ∈ wsX10_down := qh0 84 (by decide +kernel)
set_option maxHeartbeats 4000000 in
set_option maxRecDepth 100000 in
theorem qaQK (l : Launch) (dC : Nat → ClassId) (dI : Nat → Nat → Nat) (cyB cyI cyJ cyP : ClassId) (a0 jaW jg9 jkg jf0 jkh jku jki jkv jkq jjG jaR jb6 jbW jbL jg6 jiM jaT jbb jeG sz : Nat) (jbc ja3 jbH jbO jac jbI jbl jbn jbA jmj jnn jnb jbr jm2 : Value) (ji4 : NI) (jbz jk4 jlW jll jj0 jlm jjE jno jnp jnq : Int32) (jnr : NI) (jnB : Int32) (jnC jnD jnE jmV jns jnt : NI) (jdh : Int32) (jdN jdi : NI) (jlT : Int32) (jk5 jbQ : NI) (jn3 jmF : Value) (jje jkc jcn p1 : Int32) {E : String → Int32 → Int32 → Int32 → Int32 → Int32 → Int32 → Int32 → Int32 → Int32 → Int32 → NI → Int32 → NI → NI → NI → NI → NI → NI → Value → Value → Int32 → NI → NI → Int32 → NI → NI → Value → Value → Int32 → Int32 → Int32 → Prop} {Q : Int32 → Int32 → Int32 → Int32 → Int32 → Int32 → Int32 → Int32 → Int32 → Int32 → Int32 → NI → Int32 → NI → NI → NI → NI → NI → NI → Value → Value → Int32 → NI → NI → Int32 → NI → NI → Value → Value → Int32 → Int32 → Int32 → Prop} (hw : qYq jaR jg9 jb6 ji4 jbz jk4 jlW jll jj0 jlm jjE jno jnp jnq jnr jnB jnC jnD jnE jmV jns jnt (.ref jaR) (.ref jg9) jdh jdN jdi jlT jk5 jbQ jn3 jmF jje jkc jcn p1 E Q) : vx_Met l yX10_down wsX10_down ({ frames := 9, cells := 1, slots := 6, locals := 186 }) (va_Pc [.ref a0, .int p1] (cPs (zE) l (dC, dI) (kT cyB cyI cyJ cyP) (qzQ a0 jaW jaR jg9 jb6 jbc jg6 ja3 jbH jaT jbO jeG jac jbI jbl jbn jkc jcn jbA jbz jaW jf0 jk4 jlW jll jj0 jlm jjE jg9 jkh jki jku jkv jkq jjG jkg jmj jno jnp jnq jnB jkg cyI jnr jf0 cyB ji4 jkh cyI jns jku cyI jnC jki cyI jnt jkv cyI jnD jkq cyI jnE jjG cyI jmV jb6 jbW jbL jnn jnb jdh jbW cyI jdN jbL cyI jdi jg6 jiM jlT jiM cyI jk5 jaT jbb jbr jn3 jmF jbb cyI jbQ jeG jm2 jje) sz)) (va_Qi (fun (r : Int32) (u : Int32 × Int32 × Int32 × Int32 × Int32 × Int32 × Int32 × Int32 × Int32 × Int32 × NI × Int32 × NI × NI × NI × NI × NI × NI × Value × Value × Int32 × NI × NI × Int32 × NI × NI × Value × Value × Int32 × Int32 × Int32) => Q r u.1 u.2.1 u.2.2.1 u.2.2.2.1 u.2.2.2.2.1 u.2.2.2.2.2.1 u.2.2.2.2.2.2.1 u.2.2.2.2.2.2.2.1 u.2.2.2.2.2.2.2.2.1 u.2.2.2.2.2.2.2.2.2.1 u.2.2.2.2.2.2.2.2.2.2.1 u.2.2.2.2.2.2.2.2.2.2.2.1 u.2.2.2.2.2.2.2.2.2.2.2.2.1 u.2.2.2.2.2.2.2.2.2.2.2.2.2.1 u.2.2.2.2.2.2.2.2.2.2.2.2.2.2.1 u.2.2.2.2.2.2.2.2.2.2.2.2.2.2.2.1 u.2.2.2.2.2.2.2.2.2.2.2.2.2.2.2.2.1 u.2.2.2.2.2.2.2.2.2.2.2.2.2.2.2.2.2.1 u.2.2.2.2.2.2.2.2.2.2.2.2.2.2.2.2.2.2.1 u.2.2.2.2.2.2.2.2.2.2.2.2.2.2.2.2.2.2.2.1 u.2.2.2.2.2.2.2.2.2.2.2.2.2.2.2.2.2.2.2.2.1 u.2.2.2.2.2.2.2.2.2.2.2.2.2.2.2.2.2.2.2.2.2.1 u.2.2.2.2.2.2.2.2.2.2.2.2.2.2.2.2.2.2.2.2.2.2.1 u.2.2.2.2.2.2.2.2.2.2.2.2.2.2.2.2.2.2.2.2.2.2.2.1 u.2.2.2.2.2.2.2.2.2.2.2.2.2.2.2.2.2.2.2.2.2.2.2.2.1 u.2.2.2.2.2.2.2.2.2.2.2.2.2.2.2.2.2.2.2.2.2.2.2.2.2.1 u.2.2.2.2.2.2.2.2.2.2.2.2.2.2.2.2.2.2.2.2.2.2.2.2.2.2.1 u.2.2.2.2.2.2.2.2.2.2.2.2.2.2.2.2.2.2.2.2.2.2.2.2.2.2.2.1 u.2.2.2.2.2.2.2.2.2.2.2.2.2.2.2.2.2.2.2.2.2.2.2.2.2.2.2.2.1 u.2.2.2.2.2.2.2.2.2.2.2.2.2.2.2.2.2.2.2.2.2.2.2.2.2.2.2.2.2.1 u.2.2.2.2.2.2.2.2.2.2.2.2.2.2.2.2.2.2.2.2.2.2.2.2.2.2.2.2.2.2) (cB (dC, dI) (kT cyB cyI cyJ cyP) (va_A (qzQ a0 jaW jaR jg9 jb6 jbc jg6 ja3 jbH jaT jbO jeG jac jbI jbl jbn jkc jcn jbA jbz jaW jf0 jk4 jlW jll jj0 jlm jjE jg9 jkh jki jku jkv jkq jjG jkg jmj jno jnp jnq jnB jkg cyI jnr jf0 cyB ji4 jkh cyI jns jku cyI jnC jki cyI jnt jkv cyI jnD jkq cyI jnE jjG cyI jmV jb6 jbW jbL jnn jnb jdh jbW cyI jdN jbL cyI jdi jg6 jiM jlT jiM cyI jk5 jaT jbb jbr jn3 jmF jbb cyI jbQ jeG jm2 jje) sz) (fun u : Int32 × Int32 × Int32 × Int32 × Int32 × Int32 × Int32 × Int32 × Int32 × Int32 × NI × Int32 × NI × NI × NI × NI × NI × NI × Value × Value × Int32 × NI × NI × Int32 × NI × NI × Value × Value × Int32 × Int32 × Int32 => ((qaR2 a0 jaW u.2.2.2.2.2.2.2.2.2.2.2.2.2.2.2.2.2.2.1 u.2.2.2.2.2.2.2.2.2.2.2.2.2.2.2.2.2.2.2.1 jb6 jbc jg6 ja3 jbH jaT jbO jeG jac jbI jbl jbn u.2.2.2.2.2.2.2.2.2.2.2.2.2.2.2.2.2.2.2.2.2.2.2.2.2.2.2.2.2.1 u.2.2.2.2.2.2.2.2.2.2.2.2.2.2.2.2.2.2.2.2.2.2.2.2.2.2.2.2.2.2 jbA u.1 jaW jf0 u.2.1 u.2.2.1 u.2.2.2.1 u.2.2.2.2.1 u.2.2.2.2.2.1 u.2.2.2.2.2.2.1 jg9 jkh jki jku jkv jkq jjG jkg jmj u.2.2.2.2.2.2.2.1 u.2.2.2.2.2.2.2.2.1 u.2.2.2.2.2.2.2.2.2.1 u.2.2.2.2.2.2.2.2.2.2.2.1 jkg cyI u.2.2.2.2.2.2.2.2.2.2.1 jf0 cyB ji4 jkh cyI u.2.2.2.2.2.2.2.2.2.2.2.2.2.2.2.2.1 jku cyI u.2.2.2.2.2.2.2.2.2.2.2.2.1 jki cyI u.2.2.2.2.2.2.2.2.2.2.2.2.2.2.2.2.2.1 jkv cyI u.2.2.2.2.2.2.2.2.2.2.2.2.2.1 jkq cyI u.2.2.2.2.2.2.2.2.2.2.2.2.2.2.1 jjG cyI u.2.2.2.2.2.2.2.2.2.2.2.2.2.2.2.1 jb6 jbW jbL jnn jnb u.2.2.2.2.2.2.2.2.2.2.2.2.2.2.2.2.2.2.2.2.1 jbW cyI u.2.2.2.2.2.2.2.2.2.2.2.2.2.2.2.2.2.2.2.2.2.1 jbL cyI u.2.2.2.2.2.2.2.2.2.2.2.2.2.2.2.2.2.2.2.2.2.2.1 jg6 jiM u.2.2.2.2.2.2.2.2.2.2.2.2.2.2.2.2.2.2.2.2.2.2.2.1 jiM cyI u.2.2.2.2.2.2.2.2.2.2.2.2.2.2.2.2.2.2.2.2.2.2.2.2.1 jaT jbb jbr u.2.2.2.2.2.2.2.2.2.2.2.2.2.2.2.2.2.2.2.2.2.2.2.2.2.2.1 u.2.2.2.2.2.2.2.2.2.2.2.2.2.2.2.2.2.2.2.2.2.2.2.2.2.2.2.1 jbb cyI u.2.2.2.2.2.2.2.2.2.2.2.2.2.2.2.2.2.2.2.2.2.2.2.2.2.1 jeG jm2 u.2.2.2.2.2.2.2.2.2.2.2.2.2.2.2.2.2.2.2.2.2.2.2.2.2.2.2.2.1) : va_W))) (va_A (qzQ a0 jaW jaR jg9 jb6 jbc jg6 ja3 jbH jaT jbO jeG jac jbI jbl jbn jkc jcn jbA jbz jaW jf0 jk4 jlW jll jj0 jlm jjE jg9 jkh jki jku jkv jkq jjG jkg jmj jno jnp jnq jnB jkg cyI jnr jf0 cyB ji4 jkh cyI jns jku cyI jnC jki cyI jnt jkv cyI jnD jkq cyI jnE jjG cyI jmV jb6 jbW jbL jnn jnb jdh jbW cyI jdN jbL cyI jdi jg6 jiM jlT jiM cyI jk5 jaT jbb jbr jn3 jmF jbb cyI jbQ jeG jm2 jje) sz)) (vx_X (fun _ => True) (fun (en : String) (u : Int32 × Int32 × Int32 × Int32 × Int32 × Int32 × Int32 × Int32 × Int32 × Int32 × NI × Int32 × NI × NI × NI × NI × NI × NI × Value × Value × Int32 × NI × NI × Int32 × NI × NI × Value × Value × Int32 × Int32 × Int32) (t : State) => E en u.1 u.2.1 u.2.2.1 u.2.2.2.1 u.2.2.2.2.1 u.2.2.2.2.2.1 u.2.2.2.2.2.2.1 u.2.2.2.2.2.2.2.1 u.2.2.2.2.2.2.2.2.1 u.2.2.2.2.2.2.2.2.2.1 u.2.2.2.2.2.2.2.2.2.2.1 u.2.2.2.2.2.2.2.2.2.2.2.1 u.2.2.2.2.2.2.2.2.2.2.2.2.1 u.2.2.2.2.2.2.2.2.2.2.2.2.2.1 u.2.2.2.2.2.2.2.2.2.2.2.2.2.2.1 u.2.2.2.2.2.2.2.2.2.2.2.2.2.2.2.1 u.2.2.2.2.2.2.2.2.2.2.2.2.2.2.2.2.1 u.2.2.2.2.2.2.2.2.2.2.2.2.2.2.2.2.2.1 u.2.2.2.2.2.2.2.2.2.2.2.2.2.2.2.2.2.2.1 u.2.2.2.2.2.2.2.2.2.2.2.2.2.2.2.2.2.2.2.1 u.2.2.2.2.2.2.2.2.2.2.2.2.2.2.2.2.2.2.2.2.1 u.2.2.2.2.2.2.2.2.2.2.2.2.2.2.2.2.2.2.2.2.2.1 u.2.2.2.2.2.2.2.2.2.2.2.2.2.2.2.2.2.2.2.2.2.2.1 u.2.2.2.2.2.2.2.2.2.2.2.2.2.2.2.2.2.2.2.2.2.2.2.1 u.2.2.2.2.2.2.2.2.2.2.2.2.2.2.2.2.2.2.2.2.2.2.2.2.1 u.2.2.2.2.2.2.2.2.2.2.2.2.2.2.2.2.2.2.2.2.2.2.2.2.2.1 u.2.2.2.2.2.2.2.2.2.2.2.2.2.2.2.2.2.2.2.2.2.2.2.2.2.2.1 u.2.2.2.2.2.2.2.2.2.2.2.2.2.2.2.2.2.2.2.2.2.2.2.2.2.2.2.1 u.2.2.2.2.2.2.2.2.2.2.2.2.2.2.2.2.2.2.2.2.2.2.2.2.2.2.2.2.1 u.2.2.2.2.2.2.2.2.2.2.2.2.2.2.2.2.2.2.2.2.2.2.2.2.2.2.2.2.2.1 u.2.2.2.2.2.2.2.2.2.2.2.2.2.2.2.2.2.2.2.2.2.2.2.2.2.2.2.2.2.2 ∧ cB (dC, dI) (kT cyB cyI cyJ cyP) (va_A (qzQ a0 jaW jaR jg9 jb6 jbc jg6 ja3 jbH jaT jbO jeG jac jbI jbl jbn jkc jcn jbA jbz jaW jf0 jk4 jlW jll jj0 jlm jjE jg9 jkh jki jku jkv jkq jjG jkg jmj jno jnp jnq jnB jkg cyI jnr jf0 cyB ji4 jkh cyI jns jku cyI jnC jki cyI jnt jkv cyI jnD jkq cyI jnE jjG cyI jmV jb6 jbW jbL jnn jnb jdh jbW cyI jdN jbL cyI jdi jg6 jiM jlT jiM cyI jk5 jaT jbb jbr jn3 jmF jbb cyI jbQ jeG jm2 jje) sz) (fun u : Int32 × Int32 × Int32 × Int32 × Int32 × Int32 × Int32 × Int32 × Int32 × Int32 × NI × Int32 × NI × NI × NI × NI × NI × NI × Value × Value × Int32 × NI × NI × Int32 × NI × NI × Value × Value × Int32 × Int32 × Int32 => ((qaR2 a0 jaW u.2.2.2.2.2.2.2.2.2.2.2.2.2.2.2.2.2.2.1 u.2.2.2.2.2.2.2.2.2.2.2.2.2.2.2.2.2.2.2.1 jb6 jbc jg6 ja3 jbH jaT jbO jeG jac jbI jbl jbn u.2.2.2.2.2.2.2.2.2.2.2.2.2.2.2.2.2.2.2.2.2.2.2.2.2.2.2.2.2.1 u.2.2.2.2.2.2.2.2.2.2.2.2.2.2.2.2.2.2.2.2.2.2.2.2.2.2.2.2.2.2 jbA u.1 jaW jf0 u.2.1 u.2.2.1 u.2.2.2.1 u.2.2.2.2.1 u.2.2.2.2.2.1 u.2.2.2.2.2.2.1 jg9 jkh jki jku jkv jkq jjG jkg jmj u.2.2.2.2.2.2.2.1 u.2.2.2.2.2.2.2.2.1 u.2.2.2.2.2.2.2.2.2.1 u.2.2.2.2.2.2.2.2.2.2.2.1 jkg cyI u.2.2.2.2.2.2.2.2.2.2.1 jf0 cyB ji4 jkh cyI u.2.2.2.2.2.2.2.2.2.2.2.2.2.2.2.2.1 jku cyI u.2.2.2.2.2.2.2.2.2.2.2.2.1 jki cyI u.2.2.2.2.2.2.2.2.2.2.2.2.2.2.2.2.2.1 jkv cyI u.2.2.2.2.2.2.2.2.2.2.2.2.2.1 jkq cyI u.2.2.2.2.2.2.2.2.2.2.2.2.2.2.1 jjG cyI u.2.2.2.2.2.2.2.2.2.2.2.2.2.2.2.1 jb6 jbW jbL jnn jnb u.2.2.2.2.2.2.2.2.2.2.2.2.2.2.2.2.2.2.2.2.1 jbW cyI u.2.2.2.2.2.2.2.2.2.2.2.2.2.2.2.2.2.2.2.2.2.1 jbL cyI u.2.2.2.2.2.2.2.2.2.2.2.2.2.2.2.2.2.2.2.2.2.2.1 jg6 jiM u.2.2.2.2.2.2.2.2.2.2.2.2.2.2.2.2.2.2.2.2.2.2.2.1 jiM cyI u.2.2.2.2.2.2.2.2.2.2.2.2.2.2.2.2.2.2.2.2.2.2.2.2.1 jaT jbb jbr u.2.2.2.2.2.2.2.2.2.2.2.2.2.2.2.2.2.2.2.2.2.2.2.2.2.2.1 u.2.2.2.2.2.2.2.2.2.2.2.2.2.2.2.2.2.2.2.2.2.2.2.2.2.2.2.1 jbb cyI u.2.2.2.2.2.2.2.2.2.2.2.2.2.2.2.2.2.2.2.2.2.2.2.2.2.1 jeG jm2 u.2.2.2.2.2.2.2.2.2.2.2.2.2.2.2.2.2.2.2.2.2.2.2.2.2.2.2.2.1) : va_W)) u t) (va_A (qzQ a0 jaW jaR jg9 jb6 jbc jg6 ja3 jbH jaT jbO jeG jac jbI jbl jbn jkc jcn jbA jbz jaW jf0 jk4 jlW jll jj0 jlm jjE jg9 jkh jki jku jkv jkq jjG jkg jmj jno jnp jnq jnB jkg cyI jnr jf0 cyB ji4 jkh cyI jns jku cyI jnC jki cyI jnt jkv cyI jnD jkq cyI jnE jjG cyI jmV jb6 jbW jbL jnn jnb jdh jbW cyI jdN jbL cyI jdi jg6 jiM jlT jiM cyI jk5 jaT jbb jbr jn3 jmF jbb cyI jbQ jeG jm2 jje) sz)) 1 6 (va_A (qzQ a0 jaW jaR jg9 jb6 jbc jg6 ja3 jbH jaT jbO jeG jac jbI jbl jbn jkc jcn jbA jbz jaW jf0 jk4 jlW jll jj0 jlm jjE jg9 jkh jki jku jkv jkq jjG jkg jmj jno jnp jnq jnB jkg cyI jnr jf0 cyB ji4 jkh cyI jns jku cyI jnC jki cyI jnt jkv cyI jnD jkq cyI jnE jjG cyI jmV jb6 jbW jbL jnn jnb jdh jbW cyI jdN jbL cyI jdi jg6 jiM jlT jiM cyI jk5 jaT jbb jbr jn3 jmF jbb cyI jbQ jeG jm2 jje) sz) := by
  refine vx_ofW (cc := cX10_down) (maxL := 3) (ret := (some .int)) (by decide) rfl ?_
  intro p e s m args below meth c s₁ B hml hnt hv
  obtain ⟨rfl, ⟨hsz, hP, hK, hD0, hNw, hXl, hXu, hXn, hXt⟩, hE0⟩ := hv
  have hx := B.exec
  have hb := B.bytes
  have hr := B.returns
  have hts := atoms_spec (ws := wsX10_down) B.pre
  have hown : s.vm.findClass RX10 = some m.cls := findClass_of_methodNamed B.named
  have hlocks := B.notSynchronized
  subst hsz
  have hD := hD0.self (sz := s.heap.size)
  generalize hAe : va_A (qzQ a0 jaW jaR jg9 jb6 jbc jg6 ja3 jbH jaT jbO jeG jac jbI jbl jbn jkc jcn jbA jbz jaW jf0 jk4 jlW jll jj0 jlm jjE jg9 jkh jki jku jkv jkq jjG jkg jmj jno jnp jnq jnB jkg cyI jnr jf0 cyB ji4 jkh cyI jns jku cyI jnC jki cyI jnt jkv cyI jnD jkq cyI jnE jjG cyI jmV jb6 jbW jbL jnn jnb jdh jbW cyI jdN jbL cyI jdi jg6 jiM jlT jiM cyI jk5 jaT jbb jbr jn3 jmF jbb cyI jbQ jeG jm2 jje) s.heap.size = A at hD hXu hXn hE0 ⊢
  have hA : ∀ q : Nat, s.heap.size ≤ q → A q := fun q h => by rw [← hAe]; exact Or.inr h
  have hS : va_S A s.heap s.heap [] := va_S.rf
  have hP : va_P (dC, dI) vwCl (qzQ a0 jaW jaR jg9 jb6 jbc jg6 ja3 jbH jaT jbO jeG jac jbI jbl jbn jkc jcn jbA jbz jaW jf0 jk4 jlW jll jj0 jlm jjE jg9 jkh jki jku jkv jkq jjG jkg jmj jno jnp jnq jnB jkg cyI jnr jf0 cyB ji4 jkh cyI jns jku cyI jnC jki cyI jnt jkv cyI jnD jkq cyI jnE jjG cyI jmV jb6 jbW jbL jnn jnb jdh jbW cyI jdN jbL cyI jdi jg6 jiM jlT jiM cyI jk5 jaT jbb jbr jn3 jmF jbb cyI jbQ jeG jm2 jje) s.heap := hP
  have hl := lv_entry ([.ref a0, .int p1]) (n := 3) (nbq rfl)
  rw [lg_entry_eq]
  generalize (lg_sl ([.ref a0, .int p1]) ++ List.replicate (3 - (lg_sl ([.ref a0, .int p1])).length) Slot.unset).toArray = ls at hl ⊢
  have hl : lv_has ls 3 [(0, .ref a0), (1, .int p1)] := hl
  have hY : cfY l s A := ⟨hXl, hXu, hXn, hXt⟩
  have hE := hE0
  have hXs : cfX l s c A := ⟨hnt, hY⟩
  have C0 : cfx p s m _ meth c cX10_down (some .int) wsX10_down RX10 3 A (dC, dI) (kT cyB cyI cyJ cyP) ∧ cfX l s c A := ⟨⟨hx, hb, hr, hts, hown, hlocks, hml, hA, hK, hNw⟩, hXs⟩
  clear hAe
  obtain ⟨H, hH⟩ : ∃ H, H = s.heap := ⟨_, rfl⟩
  rw [← hH] at hP ⊢
  have hS : va_S A s.heap H [] := by rw [hH]; exact va_S.rf
  have hS := hS
  refine lv_aload_n hx hb (qaa qlZ 0 rfl) rfl (lv_at hl 0 rfl) ?_
  refine lv_iload_n hx hb (qaa qlZ 1 rfl) rfl (lv_at hl 1 rfl) ?_
  refine lv_sipush (v := 600) hx hb (qaa qlZ 2 rfl) (by decide) ?_
  obtain ⟨hCc, hPc, hDc, hFc⟩ := qac (ws' := (qaYq a0 jaW jaR jg9 jb6 jbc jg6 ja3 jbH jaT jbO jeG jac jbI jbl jbn jkc jcn jbA jbz jaW jf0 jk4 jlW jll jj0 jlm jjE)) hP hD hS hA [0, 1] (by decide +kernel) rfl
  refine vx_callv (vx_runV (As := [.int p1, .int 600]) (rest := []) ⟨hx, hb, hml, hown, hts⟩ (qHR l dC dI cyB cyI cyJ cyP a0 jaW H.size (.ref jaR) (.ref jg9) (.ref jb6) (jbc) (.ref jg6) (ja3) (jbH) (.ref jaT) (jbO) (.ref jeG) (jac) (jbI) (jbl) (jbn) (.int jkc) (.int jcn) (jbA) (.ref jf0) jbz jk4 jlW jll jj0 jlm jjE p1 600 hw) (cwV 2 hts gX10_down_X10_openText rfl rfl rfl (by decide +kernel) ⟨nbq rfl, nbq rfl⟩) ⟨qav, va_recv (q := (RX10, TX10, 19)) hK hPc (ci := 10) (q0 := 0) rfl rfl, qbl hPc hK hDc hNw hY hS hFc⟩ rfl rfl hl.1 rfl (lv_room (nbq rfl)) (qaa qlZ 3 rfl) ⟨nbq rfl, nbq rfl⟩) hS (fun q _ h => hFc q h) hFc (fun q _ h => hFc q h) (fun en ce q9 u t H1 locs ht hvm hpx hB hz1 hk1 hS hc9 hv9 hcl9 => ?_) (fun u t H1 locs ht hvm hw hB hz1 hk1 hS => ?_)
  · obtain ⟨x1, x2, x3, x4, x5, x6, x7⟩ := u
    obtain ⟨hw, hP1, hK1, hD1⟩ := hB
    rw [ht] at hP1
    obtain ⟨hP, hD⟩ := qad (wr := (qa3t jg9 jkh jki jku jkv jkq jjG jkg jmj jno jnp jnq jnB jkg cyI jnr jf0 cyB ji4 jkh cyI jns jku cyI jnC jki cyI jnt jkv cyI jnD jkq cyI jnE jjG cyI jmV jb6 jbW jbL jnn jnb jdh jbW cyI jdN jbL cyI jdi jg6 jiM jlT jiM cyI jk5 jaT jbb jbr jn3 jmF jbb cyI jbQ jeG jm2 jje)) (w1 := (qaYq a0 jaW jaR jg9 jb6 jbc jg6 ja3 jbH jaT jbO jeG jac jbI jbl jbn jkc jcn jbA x1 jaW jf0 x2 x3 x4 x5 x6 x7)) (wn := (qzQ a0 jaW jaR jg9 jb6 jbc jg6 ja3 jbH jaT jbO jeG jac jbI jbl jbn jkc jcn jbA x1 jaW jf0 x2 x3 x4 x5 x6 x7 jg9 jkh jki jku jkv jkq jjG jkg jmj jno jnp jnq jnB jkg cyI jnr jf0 cyB ji4 jkh cyI jns jku cyI jnC jki cyI jnt jkv cyI jnD jkq cyI jnE jjG cyI jmV jb6 jbW jbL jnn jnb jdh jbW cyI jdN jbL cyI jdi jg6 jiM jlT jiM cyI jk5 jaT jbb jbr jn3 jmF jbb cyI jbQ jeG jm2 jje)) hP hD [0, 1] [2, 3, 4, 5, 6, 7, 8, 9, 10, 11, 12, 13, 14, 15, 16, 17, 18] [17, 18, 0, 1, 2, 3, 4, 5, 6, 7, 8, 9, 10, 11, 12, 13, 14, 15, 16] hCc rfl (by decide +kernel) (by decide +kernel) (by decide +kernel) rfl hk1 hFc hP1 hD1
    generalize H1 = H at hP hS hc9 ⊢
    exact vx_out (fun x hx9 => (hXs.1 x hx9).elim) hlocks hc9 hv9 hcl9 (fun t2 ht2 hal2 => ⟨(x1, x2, x3, x4, x5, x6, x7, jno, jnp, jnq, jnr, jnB, jnC, jnD, jnE, jmV, jns, jnt, (.ref jaR), (.ref jg9), jdh, jdN, jdi, jlT, jk5, jbQ, jn3, jmF, jje, jkc, jcn), trivial, ⟨hw, by rw [ht2]; exact hP, va_K.moved hal2 hK, hD⟩, hS.F ht2⟩) hS.2.2 (nbq rfl) (nbq rfl)
  obtain ⟨x1, x2, x3, x4, x5, x6, x7⟩ := u
  obtain ⟨hP1, hK1, hD1⟩ := hB
  rw [ht] at hP1
  obtain ⟨hP, hD⟩ := qad (wr := (qa3t jg9 jkh jki jku jkv jkq jjG jkg jmj jno jnp jnq jnB jkg cyI jnr jf0 cyB ji4 jkh cyI jns jku cyI jnC jki cyI jnt jkv cyI jnD jkq cyI jnE jjG cyI jmV jb6 jbW jbL jnn jnb jdh jbW cyI jdN jbL cyI jdi jg6 jiM jlT jiM cyI jk5 jaT jbb jbr jn3 jmF jbb cyI jbQ jeG jm2 jje)) (w1 := (qaYq a0 jaW jaR jg9 jb6 jbc jg6 ja3 jbH jaT jbO jeG jac jbI jbl jbn jkc jcn jbA x1 jaW jf0 x2 x3 x4 x5 x6 x7)) (wn := (qzQ a0 jaW jaR jg9 jb6 jbc jg6 ja3 jbH jaT jbO jeG jac jbI jbl jbn jkc jcn jbA x1 jaW jf0 x2 x3 x4 x5 x6 x7 jg9 jkh jki jku jkv jkq jjG jkg jmj jno jnp jnq jnB jkg cyI jnr jf0 cyB ji4 jkh cyI jns jku cyI jnC jki cyI jnt jkv cyI jnD jkq cyI jnE jjG cyI jmV jb6 jbW jbL jnn jnb jdh jbW cyI jdN jbL cyI jdi jg6 jiM jlT jiM cyI jk5 jaT jbb jbr jn3 jmF jbb cyI jbQ jeG jm2 jje)) hP hD [0, 1] [2, 3, 4, 5, 6, 7, 8, 9, 10, 11, 12, 13, 14, 15, 16, 17, 18] [17, 18, 0, 1, 2, 3, 4, 5, 6, 7, 8, 9, 10, 11, 12, 13, 14, 15, 16] hCc rfl (by decide +kernel) (by decide +kernel) (by decide +kernel) rfl hk1 hFc hP1 hD1
  generalize H1 = H at hP hS ⊢
  refine lv_aload_n hx hb (qaa qlZ 4 rfl) rfl (lv_at hl 0 rfl) ?_
  refine va_get (D := (dC, dI)) (ci := 10) (v := .ref jg9) (C := RX10) (T := TX10) (N := 19) hx hb hts qdD hown hK hP 0 rfl rfl 2 (by decide) (hts _ qKg) (fun _ h9 => h9) rfl (qaa qlZ 5 rfl) ?_
  refine lv_aload_n hx hb (qaa qlZ 6 rfl) rfl (lv_at hl 0 rfl) ?_
  refine va_get (D := (dC, dI)) (ci := 10) (v := .ref jaW) (C := RX10) (T := TX10) (N := 19) hx hb hts qdD hown hK hP 0 rfl rfl 0 (by decide) (hts _ qJ6) (fun _ h9 => h9) rfl (qaa qlZ 7 rfl) ?_
  obtain ⟨hCc, hPc, hDc, hFc⟩ := qac (ws' := (qa3T jg9 jkh jki jku jkv jkq jjG jkg jmj jno jnp jnq jnB jkg cyI jnr jaW jf0 x2 x3 x4 x5 x6 x7 jf0 cyB ji4 jkh cyI jns jku cyI jnC jki cyI jnt jkv cyI jnD jkq cyI jnE jjG cyI jmV)) hP hD hS hA [2, 3, 1, 4, 5, 6, 7, 8, 9, 10] (by decide +kernel) rfl
  refine va_callv (va_runV (As := [.ref jaW]) (rest := []) ⟨hx, hb, hml, hown, hts⟩ (qapv l dC dI cyB cyI cyJ cyP jg9 jaW jkg jf0 jkh jku jki jkv jkq jjG H.size (jmj) (.int x5) x2 ji4 jno jnp jnq jnr x3 jnB x4 x6 x7 jnC jnD jnE jmV jns jnt hw) (cwV 1 hts gX10_down_X2_readFrom rfl rfl rfl (by decide +kernel) ⟨nbq rfl, nbq rfl⟩) ⟨qat qsO, va_recv (q := (RX2, TX2, 12)) hK hPc (ci := 2) (q0 := 0) rfl rfl, qbg qsO hPc hK hDc hNw hY hE hS hFc⟩ rfl rfl hl.1 rfl (lv_room (nbq rfl)) (qaa qlZ 8 rfl) ⟨nbq rfl, nbq rfl⟩) hS (fun q _ h => hFc q h) hFc (fun u t H1 locs ht hvm hw hB hz1 hk1 hS => ?_)
  obtain ⟨x8, x9, x10, f11, x12, x13, x14, x15, x16, f17, f18, f19, f20, f21, f22⟩ := u
  obtain ⟨hP1, hK1, hD1⟩ := hB
  rw [ht] at hP1
  obtain ⟨hP, hD⟩ := qad (wr := [(a0, .inr (10, [.ref jaW, .ref jaR, .ref jg9, .ref jb6, jbc, .ref jg6, ja3, jbH, .ref jaT, jbO, .ref jeG, jac, jbI, jbl, jbn, .int jkc, .int jcn, jbA, .int x1])), (jb6, .inr (4, [.ref jbW, .ref jbL, jnn, jnb, .int jdh])), (jbW, .inl (cyI, 150, .inl jdN)), (jbL, .inl (cyI, 150, .inl jdi)), (jg6, .inr (0, [.ref jiM, .int jlT])), (jiM, .inl (cyI, 8, .inl jk5)), (jaT, .inr (1, [.ref jbb, jbr, jn3, jmF])), (jbb, .inl (cyI, 64, .inl jbQ)), (jeG, .inr (5, [jm2, .int jje]))]) (w1 := (qa3T jg9 jkh jki jku jkv jkq jjG jkg jmj x8 x9 x10 x13 jkg cyI f11 jaW jf0 x2 x12 x14 x5 x15 x16 jf0 cyB ji4 jkh cyI f21 jku cyI f17 jki cyI f22 jkv cyI f18 jkq cyI f19 jjG cyI f20)) (wn := (qzQ a0 jaW jaR jg9 jb6 jbc jg6 ja3 jbH jaT jbO jeG jac jbI jbl jbn jkc jcn jbA x1 jaW jf0 x2 x12 x14 x5 x15 x16 jg9 jkh jki jku jkv jkq jjG jkg jmj x8 x9 x10 x13 jkg cyI f11 jf0 cyB ji4 jkh cyI f21 jku cyI f17 jki cyI f22 jkv cyI f18 jkq cyI f19 jjG cyI f20 jb6 jbW jbL jnn jnb jdh jbW cyI jdN jbL cyI jdi jg6 jiM jlT jiM cyI jk5 jaT jbb jbr jn3 jmF jbb cyI jbQ jeG jm2 jje)) hP hD [2, 3, 1, 4, 5, 6, 7, 8, 9, 10] [0, 11, 12, 13, 14, 15, 16, 17, 18] [0, 11, 9, 10, 12, 13, 14, 15, 16, 17, 18, 1, 2, 3, 4, 5, 6, 7, 8] hCc rfl (by decide +kernel) (by decide +kernel) (by decide +kernel) rfl hk1 hFc hP1 hD1
  generalize H1 = H at hP hS ⊢
  refine lv_aload_n hx hb (qaa qlZ 9 rfl) rfl (lv_at hl 0 rfl) ?_
  refine va_get (D := (dC, dI)) (ci := 10) (v := .ref jaW) (C := RX10) (T := TX10) (N := 19) hx hb hts qdD hown hK hP 0 rfl rfl 0 (by decide) (hts _ qJ6) (fun _ h9 => h9) rfl (qaa qlZ 10 rfl) ?_
  obtain ⟨hCc, hPc, hDc, hFc⟩ := qac (ws' := (qa1i jaW jf0 x2 x12 x14 x5 x15 x16)) hP hD hS hA [1] (by decide +kernel) rfl
  refine va_calli (va_runV (As := []) (rest := []) ⟨hx, hb, hml, hown, hts⟩ (qkj l dC dI cyB cyI cyJ cyP jaW H.size (.ref jf0) (.int x2) (.int x12) (.int x14) (.int x5) (.int x16) x15 hw) (cwV 0 hts gX10_down_X8_isFaulty rfl rfl rfl (by decide +kernel) ⟨nbq rfl, nbq rfl⟩) ⟨qab, va_recv (q := (RX8, TX8, 7)) hK hPc (ci := 8) (q0 := 0) rfl rfl, qae hPc hK hDc hNw⟩ rfl rfl hl.1 rfl (lv_room (nbq rfl)) (qaa qlZ 11 rfl) ⟨nbq rfl, nbq rfl⟩) hS (fun q _ h => hFc q h) hFc (fun r23 u t H1 locs ht hvm hw hB hz1 hk1 hS => ?_)
  obtain ⟨hP1, hK1, hD1⟩ := hB
  rw [ht] at hP1
  obtain ⟨hP, hD⟩ := qad (wr := [(a0, .inr (10, [.ref jaW, .ref jaR, .ref jg9, .ref jb6, jbc, .ref jg6, ja3, jbH, .ref jaT, jbO, .ref jeG, jac, jbI, jbl, jbn, .int jkc, .int jcn, jbA, .int x1])), (jg9, .inr (2, [.ref jkh, .ref jki, .ref jku, .ref jkv, .ref jkq, .ref jjG, .ref jkg, jmj, .int x8, .int x9, .int x10, .int x13])), (jkg, .inl (cyI, 36, .inl f11)), (jf0, .inl (cyB, 600, .inl ji4)), (jkh, .inl (cyI, 8, .inl f21)), (jku, .inl (cyI, 4, .inl f17)), (jki, .inl (cyI, 8, .inl f22)), (jkv, .inl (cyI, 4, .inl f18)), (jkq, .inl (cyI, 6, .inl f19)), (jjG, .inl (cyI, 6, .inl f20)), (jb6, .inr (4, [.ref jbW, .ref jbL, jnn, jnb, .int jdh])), (jbW, .inl (cyI, 150, .inl jdN)), (jbL, .inl (cyI, 150, .inl jdi)), (jg6, .inr (0, [.ref jiM, .int jlT])), (jiM, .inl (cyI, 8, .inl jk5)), (jaT, .inr (1, [.ref jbb, jbr, jn3, jmF])), (jbb, .inl (cyI, 64, .inl jbQ)), (jeG, .inr (5, [jm2, .int jje]))]) (w1 := (qa1i jaW jf0 x2 x12 x14 x5 x15 x16)) (wn := (qzQ a0 jaW jaR jg9 jb6 jbc jg6 ja3 jbH jaT jbO jeG jac jbI jbl jbn jkc jcn jbA x1 jaW jf0 x2 x12 x14 x5 x15 x16 jg9 jkh jki jku jkv jkq jjG jkg jmj x8 x9 x10 x13 jkg cyI f11 jf0 cyB ji4 jkh cyI f21 jku cyI f17 jki cyI f22 jkv cyI f18 jkq cyI f19 jjG cyI f20 jb6 jbW jbL jnn jnb jdh jbW cyI jdN jbL cyI jdi jg6 jiM jlT jiM cyI jk5 jaT jbb jbr jn3 jmF jbb cyI jbQ jeG jm2 jje)) hP hD [1] [0, 2, 3, 4, 5, 6, 7, 8, 9, 10, 11, 12, 13, 14, 15, 16, 17, 18] [0, 18, 1, 2, 3, 4, 5, 6, 7, 8, 9, 10, 11, 12, 13, 14, 15, 16, 17] hCc rfl (by decide +kernel) (by decide +kernel) (by decide +kernel) rfl hk1 hFc hP1 hD1
  generalize H1 = H at hP hS ⊢
  refine lv_if_eq (tgt := 40) hx hb (qaa qlZ 12 rfl) (by decide) (fun c24 => ?_) (fun c24 => ?_)
  · have hw := hw.1 c24
    refine lv_aload_n hx hb (qaa qkh 3 rfl) rfl (lv_at hl 0 rfl) ?_
    refine va_get (D := (dC, dI)) (ci := 10) (v := .ref jaR) (C := RX10) (T := TX10) (N := 19) hx hb hts qdD hown hK hP 0 rfl rfl 1 (by decide) (hts _ qC4) (fun _ h9 => h9) rfl (qaa qkh 4 rfl) ?_
    refine lv_astore_n (lv' := [(2, .ref jaR), (0, .ref a0), (1, .int p1)]) hx hb (qaa qkh 5 rfl) rfl hl (by decide) rfl (fun ls hl => ?_)
    refine lv_aload_n hx hb (qaa qkh 6 rfl) rfl (lv_at hl 1 rfl) ?_
    refine lv_aload_n hx hb (qaa qkh 7 rfl) rfl (lv_at hl 1 rfl) ?_
    refine va_get (D := (dC, dI)) (ci := 10) (v := .ref jg9) (C := RX10) (T := TX10) (N := 19) hx hb hts qdD hown hK hP 0 rfl rfl 2 (by decide) (hts _ qKg) (fun _ h9 => h9) rfl (qaa qkh 8 rfl) ?_
    refine va_put (D := (dC, dI)) (ci := 10) (v := .ref jg9) (ty := .object "MarchHares$Down") (C := RX10) (T := TX10) (N := 19) hx hb hts qdD tyX10 tyX10_ok nmX10 hown hK hP hD hS 0 rfl rfl 1 (by decide) (hts _ qC4) (fun _ h9 => h9) rfl (by decide +kernel) rfl rfl (nbq rfl) (qaa qkh 9 rfl) (fun H locs hP hD hS => ?_)
    have hP : va_P (dC, dI) vwCl (qzQ a0 jaW jg9 jg9 jb6 jbc jg6 ja3 jbH jaT jbO jeG jac jbI jbl jbn jkc jcn jbA x1 jaW jf0 x2 x12 x14 x5 x15 x16 jg9 jkh jki jku jkv jkq jjG jkg jmj x8 x9 x10 x13 jkg cyI f11 jf0 cyB ji4 jkh cyI f21 jku cyI f17 jki cyI f22 jkv cyI f18 jkq cyI f19 jjG cyI f20 jb6 jbW jbL jnn jnb jdh jbW cyI jdN jbL cyI jdi jg6 jiM jlT jiM cyI jk5 jaT jbb jbr jn3 jmF jbb cyI jbQ jeG jm2 jje) H := hP
    have hD : va_D A (qzQ a0 jaW jg9 jg9 jb6 jbc jg6 ja3 jbH jaT jbO jeG jac jbI jbl jbn jkc jcn jbA x1 jaW jf0 x2 x12 x14 x5 x15 x16 jg9 jkh jki jku jkv jkq jjG jkg jmj x8 x9 x10 x13 jkg cyI f11 jf0 cyB ji4 jkh cyI f21 jku cyI f17 jki cyI f22 jkv cyI f18 jkq cyI f19 jjG cyI f20 jb6 jbW jbL jnn jnb jdh jbW cyI jdN jbL cyI jdi jg6 jiM jlT jiM cyI jk5 jaT jbb jbr jn3 jmF jbb cyI jbQ jeG jm2 jje) := hD
    refine lv_aload_n hx hb (qaa qkh 10 rfl) rfl (lv_at hl 1 rfl) ?_
    refine lv_aload_n hx hb (qaa qkh 11 rfl) rfl (lv_at hl 0 rfl) ?_
    refine va_put (D := (dC, dI)) (ci := 10) (v := .ref jaR) (ty := .object "MarchHares$Down") (C := RX10) (T := TX10) (N := 19) hx hb hts qdD tyX10 tyX10_ok nmX10 hown hK hP hD hS 0 rfl rfl 2 (by decide) (hts _ qKg) (fun _ h9 => h9) rfl (by decide +kernel) rfl rfl (nbq rfl) (qaa qkh 12 rfl) (fun H locs hP hD hS => ?_)
    have hP : va_P (dC, dI) vwCl (qzQ a0 jaW jg9 jaR jb6 jbc jg6 ja3 jbH jaT jbO jeG jac jbI jbl jbn jkc jcn jbA x1 jaW jf0 x2 x12 x14 x5 x15 x16 jg9 jkh jki jku jkv jkq jjG jkg jmj x8 x9 x10 x13 jkg cyI f11 jf0 cyB ji4 jkh cyI f21 jku cyI f17 jki cyI f22 jkv cyI f18 jkq cyI f19 jjG cyI f20 jb6 jbW jbL jnn jnb jdh jbW cyI jdN jbL cyI jdi jg6 jiM jlT jiM cyI jk5 jaT jbb jbr jn3 jmF jbb cyI jbQ jeG jm2 jje) H := hP
    have hD : va_D A (qzQ a0 jaW jg9 jaR jb6 jbc jg6 ja3 jbH jaT jbO jeG jac jbI jbl jbn jkc jcn jbA x1 jaW jf0 x2 x12 x14 x5 x15 x16 jg9 jkh jki jku jkv jkq jjG jkg jmj x8 x9 x10 x13 jkg cyI f11 jf0 cyB ji4 jkh cyI f21 jku cyI f17 jki cyI f22 jkv cyI f18 jkq cyI f19 jjG cyI f20 jb6 jbW jbL jnn jnb jdh jbW cyI jdN jbL cyI jdi jg6 jiM jlT jiM cyI jk5 jaT jbb jbr jn3 jmF jbb cyI jbQ jeG jm2 jje) := hD
    refine lv_aload_n hx hb (qaa qkh 13 rfl) rfl (lv_at hl 1 rfl) ?_
    refine va_get (D := (dC, dI)) (ci := 10) (v := .ref jb6) (C := RX10) (T := TX10) (N := 19) hx hb hts qdD hown hK hP 0 rfl rfl 3 (by decide) (hts _ qVG) (fun _ h9 => h9) rfl (qaa qkh 14 rfl) ?_
    obtain ⟨hCc, hPc, hDc, hFc⟩ := qac (ws' := (qa90 jb6 jbW jbL jnn jnb jdh jbW cyI jdN jbL cyI jdi)) hP hD hS hA [11, 12, 13] (by decide +kernel) rfl
    refine va_callv (va_runV (As := []) (rest := []) ⟨hx, hb, hml, hown, hts⟩ (q8a l dC dI cyB cyI cyJ cyP jb6 jbW jbL H.size (jnn) (jnb) jdh jdN jdi hw) (cwV 0 hts gX10_down_X4_setPlain rfl rfl rfl (by decide +kernel) ⟨nbq rfl, nbq rfl⟩) ⟨qab, va_recv (q := (RX4, TX4, 5)) hK hPc (ci := 4) (q0 := 0) rfl rfl, qae hPc hK hDc hNw⟩ rfl rfl hl.1 rfl (lv_room (nbq rfl)) (qaa qkh 15 rfl) ⟨nbq rfl, nbq rfl⟩) hS (fun q _ h => hFc q h) hFc (fun u t H1 locs ht hvm hw hB hz1 hk1 hS => ?_)
    obtain ⟨x25, f26, f27⟩ := u
    obtain ⟨hP1, hK1, hD1⟩ := hB
    rw [ht] at hP1
    obtain ⟨hP, hD⟩ := qad (wr := [(a0, .inr (10, [.ref jaW, .ref jg9, .ref jaR, .ref jb6, jbc, .ref jg6, ja3, jbH, .ref jaT, jbO, .ref jeG, jac, jbI, jbl, jbn, .int jkc, .int jcn, jbA, .int x1])), (jaW, .inr (8, [.ref jf0, .int x2, .int x12, .int x14, .int x5, .int x15, .int x16])), (jg9, .inr (2, [.ref jkh, .ref jki, .ref jku, .ref jkv, .ref jkq, .ref jjG, .ref jkg, jmj, .int x8, .int x9, .int x10, .int x13])), (jkg, .inl (cyI, 36, .inl f11)), (jf0, .inl (cyB, 600, .inl ji4)), (jkh, .inl (cyI, 8, .inl f21)), (jku, .inl (cyI, 4, .inl f17)), (jki, .inl (cyI, 8, .inl f22)), (jkv, .inl (cyI, 4, .inl f18)), (jkq, .inl (cyI, 6, .inl f19)), (jjG, .inl (cyI, 6, .inl f20)), (jg6, .inr (0, [.ref jiM, .int jlT])), (jiM, .inl (cyI, 8, .inl jk5)), (jaT, .inr (1, [.ref jbb, jbr, jn3, jmF])), (jbb, .inl (cyI, 64, .inl jbQ)), (jeG, .inr (5, [jm2, .int jje]))]) (w1 := (qa90 jb6 jbW jbL jnn jnb x25 jbW cyI f26 jbL cyI f27)) (wn := (qzQ a0 jaW jg9 jaR jb6 jbc jg6 ja3 jbH jaT jbO jeG jac jbI jbl jbn jkc jcn jbA x1 jaW jf0 x2 x12 x14 x5 x15 x16 jg9 jkh jki jku jkv jkq jjG jkg jmj x8 x9 x10 x13 jkg cyI f11 jf0 cyB ji4 jkh cyI f21 jku cyI f17 jki cyI f22 jkv cyI f18 jkq cyI f19 jjG cyI f20 jb6 jbW jbL jnn jnb x25 jbW cyI f26 jbL cyI f27 jg6 jiM jlT jiM cyI jk5 jaT jbb jbr jn3 jmF jbb cyI jbQ jeG jm2 jje)) hP hD [11, 12, 13] [0, 1, 2, 3, 4, 5, 6, 7, 8, 9, 10, 14, 15, 16, 17, 18] [0, 1, 2, 3, 4, 5, 6, 7, 8, 9, 10, 16, 17, 18, 11, 12, 13, 14, 15] hCc rfl (by decide +kernel) (by decide +kernel) (by decide +kernel) rfl hk1 hFc hP1 hD1
    generalize H1 = H at hP hS ⊢
    refine lv_aload_n hx hb (qaa qki 0 rfl) rfl (lv_at hl 1 rfl) ?_
    refine va_get (D := (dC, dI)) (ci := 10) (v := .ref jg6) (C := RX10) (T := TX10) (N := 19) hx hb hts qdD hown hK hP 0 rfl rfl 5 (by decide) (hts _ qakZ) (fun _ h9 => h9) rfl (qaa qki 1 rfl) ?_
    obtain ⟨hCc, hPc, hDc, hFc⟩ := qac (ws' := (qa6b jg6 jiM jlT jiM cyI jk5)) hP hD hS hA [14, 15] (by decide +kernel) rfl
    refine va_callv (va_runV (As := []) (rest := []) ⟨hx, hb, hml, hown, hts⟩ (q9A l dC dI cyB cyI cyJ cyP jg6 jiM H.size jlT jk5 hw) (cwV 0 hts gX10_down_X0_clear rfl rfl rfl (by decide +kernel) ⟨nbq rfl, nbq rfl⟩) ⟨qab, va_recv (q := (RX0, TX0, 2)) hK hPc (ci := 0) (q0 := 0) rfl rfl, qae hPc hK hDc hNw⟩ rfl rfl hl.1 rfl (lv_room (nbq rfl)) (qaa qki 2 rfl) ⟨nbq rfl, nbq rfl⟩) hS (fun q _ h => hFc q h) hFc (fun u t H1 locs ht hvm hw hB hz1 hk1 hS => ?_)
    obtain ⟨x28, f29⟩ := u
    obtain ⟨hP1, hK1, hD1⟩ := hB
    rw [ht] at hP1
    obtain ⟨hP, hD⟩ := qad (wr := [(a0, .inr (10, [.ref jaW, .ref jg9, .ref jaR, .ref jb6, jbc, .ref jg6, ja3, jbH, .ref jaT, jbO, .ref jeG, jac, jbI, jbl, jbn, .int jkc, .int jcn, jbA, .int x1])), (jaW, .inr (8, [.ref jf0, .int x2, .int x12, .int x14, .int x5, .int x15, .int x16])), (jg9, .inr (2, [.ref jkh, .ref jki, .ref jku, .ref jkv, .ref jkq, .ref jjG, .ref jkg, jmj, .int x8, .int x9, .int x10, .int x13])), (jkg, .inl (cyI, 36, .inl f11)), (jf0, .inl (cyB, 600, .inl ji4)), (jkh, .inl (cyI, 8, .inl f21)), (jku, .inl (cyI, 4, .inl f17)), (jki, .inl (cyI, 8, .inl f22)), (jkv, .inl (cyI, 4, .inl f18)), (jkq, .inl (cyI, 6, .inl f19)), (jjG, .inl (cyI, 6, .inl f20)), (jb6, .inr (4, [.ref jbW, .ref jbL, jnn, jnb, .int x25])), (jbW, .inl (cyI, 150, .inl f26)), (jbL, .inl (cyI, 150, .inl f27)), (jaT, .inr (1, [.ref jbb, jbr, jn3, jmF])), (jbb, .inl (cyI, 64, .inl jbQ)), (jeG, .inr (5, [jm2, .int jje]))]) (w1 := (qa6b jg6 jiM x28 jiM cyI f29)) (wn := (qzQ a0 jaW jg9 jaR jb6 jbc jg6 ja3 jbH jaT jbO jeG jac jbI jbl jbn jkc jcn jbA x1 jaW jf0 x2 x12 x14 x5 x15 x16 jg9 jkh jki jku jkv jkq jjG jkg jmj x8 x9 x10 x13 jkg cyI f11 jf0 cyB ji4 jkh cyI f21 jku cyI f17 jki cyI f22 jkv cyI f18 jkq cyI f19 jjG cyI f20 jb6 jbW jbL jnn jnb x25 jbW cyI f26 jbL cyI f27 jg6 jiM x28 jiM cyI f29 jaT jbb jbr jn3 jmF jbb cyI jbQ jeG jm2 jje)) hP hD [14, 15] [0, 1, 2, 3, 4, 5, 6, 7, 8, 9, 10, 11, 12, 13, 16, 17, 18] [0, 1, 2, 3, 4, 5, 6, 7, 8, 9, 10, 11, 12, 13, 17, 18, 14, 15, 16] hCc rfl (by decide +kernel) (by decide +kernel) (by decide +kernel) rfl hk1 hFc hP1 hD1
    generalize H1 = H at hP hS ⊢
    refine lv_aload_n hx hb (qaa qki 3 rfl) rfl (lv_at hl 1 rfl) ?_
    refine va_get (D := (dC, dI)) (ci := 10) (v := .ref jaT) (C := RX10) (T := TX10) (N := 19) hx hb hts qdD hown hK hP 0 rfl rfl 8 (by decide) (hts _ qall) (fun _ h9 => h9) rfl (qaa qki 4 rfl) ?_
    refine lv_aload_n hx hb (qaa qki 5 rfl) rfl (lv_at hl 1 rfl) ?_
    refine va_get (D := (dC, dI)) (ci := 10) (v := .ref jg9) (C := RX10) (T := TX10) (N := 19) hx hb hts qdD hown hK hP 0 rfl rfl 1 (by decide) (hts _ qC4) (fun _ h9 => h9) rfl (qaa qki 6 rfl) ?_
    refine lv_aload_n hx hb (qaa qki 7 rfl) rfl (lv_at hl 1 rfl) ?_
    refine va_get (D := (dC, dI)) (ci := 10) (v := .ref jb6) (C := RX10) (T := TX10) (N := 19) hx hb hts qdD hown hK hP 0 rfl rfl 3 (by decide) (hts _ qVG) (fun _ h9 => h9) rfl (qaa qki 8 rfl) ?_
    obtain ⟨hCc, hPc, hDc, hFc⟩ := qac (ws' := (qbgJ jaT jbb jbr jn3 jmF jbb cyI jbQ jg9 jkh jki jku jkv jkq jjG jkg jmj x8 x9 x10 x13 jkg cyI f11 jkq cyI f19 jjG cyI f20)) hP hD hS hA [16, 17, 2, 3, 9, 10] (by decide +kernel) rfl
    refine va_callv (va_runV (As := [.ref jg9, .ref jb6]) (rest := []) ⟨hx, hb, hml, hown, hts⟩ (qazr l dC dI cyB cyI cyJ cyP jaT jg9 jb6 jbb jkg jkq jjG H.size (jbr) (jn3) (jmF) (.ref jkh) (.ref jki) (.ref jku) (.ref jkv) (jmj) (.int x8) (.int x10) (.int x13) x9 f11 f19 f20 jbQ hw) (cwV 2 hts gX10_down_X1_begin rfl rfl rfl (by decide +kernel) ⟨nbq rfl, nbq rfl⟩) ⟨qab, va_recv (q := (RX1, TX1, 4)) hK hPc (ci := 1) (q0 := 0) rfl rfl, qae hPc hK hDc hNw⟩ rfl rfl hl.1 rfl (lv_room (nbq rfl)) (qaa qki 9 rfl) ⟨nbq rfl, nbq rfl⟩) hS (fun q _ h => hFc q h) hFc (fun u t H1 locs ht hvm hw hB hz1 hk1 hS => ?_)
    obtain ⟨f30, rfl⟩ : ∃ z, z = u := ⟨_, rfl⟩
    obtain ⟨hP1, hK1, hD1⟩ := hB
    rw [ht] at hP1
    obtain ⟨hP, hD⟩ := qad (wr := [(a0, .inr (10, [.ref jaW, .ref jg9, .ref jaR, .ref jb6, jbc, .ref jg6, ja3, jbH, .ref jaT, jbO, .ref jeG, jac, jbI, jbl, jbn, .int jkc, .int jcn, jbA, .int x1])), (jaW, .inr (8, [.ref jf0, .int x2, .int x12, .int x14, .int x5, .int x15, .int x16])), (jf0, .inl (cyB, 600, .inl ji4)), (jkh, .inl (cyI, 8, .inl f21)), (jku, .inl (cyI, 4, .inl f17)), (jki, .inl (cyI, 8, .inl f22)), (jkv, .inl (cyI, 4, .inl f18)), (jb6, .inr (4, [.ref jbW, .ref jbL, jnn, jnb, .int x25])), (jbW, .inl (cyI, 150, .inl f26)), (jbL, .inl (cyI, 150, .inl f27)), (jg6, .inr (0, [.ref jiM, .int x28])), (jiM, .inl (cyI, 8, .inl f29)), (jeG, .inr (5, [jm2, .int jje]))]) (w1 := [(jaT, .inr (1, [.ref jbb, jbr, .ref jg9, .ref jb6])), (jbb, .inl (cyI, 64, .inl f30)), (jg9, .inr (2, [.ref jkh, .ref jki, .ref jku, .ref jkv, .ref jkq, .ref jjG, .ref jkg, jmj, .int x8, .int x9, .int x10, .int x13])), (jkg, .inl (cyI, 36, .inl f11)), (jkq, .inl (cyI, 6, .inl f19)), (jjG, .inl (cyI, 6, .inl f20))]) (wn := (qabI a0 jaW jg9 jaR jb6 jbc jg6 ja3 jbH jaT jbO jeG jac jbI jbl jbn jkc jcn jbA x1 jaW jf0 x2 x12 x14 x5 x15 x16 jg9 jkh jki jku jkv jkq jjG jkg jmj x8 x9 x10 x13 jkg cyI f11 jf0 cyB ji4 jkh cyI f21 jku cyI f17 jki cyI f22 jkv cyI f18 jkq cyI f19 jjG cyI f20 jb6 jbW jbL jnn jnb x25 jbW cyI f26 jbL cyI f27 jg6 jiM x28 jiM cyI f29 jaT jbb jbr jg9 jb6 jbb cyI f30 jeG jm2 jje)) hP hD [16, 17, 2, 3, 9, 10] [0, 1, 4, 5, 6, 7, 8, 11, 12, 13, 14, 15, 18] [0, 1, 15, 16, 2, 3, 4, 5, 6, 17, 18, 7, 8, 9, 10, 11, 13, 14, 12] hCc rfl (by decide +kernel) (by decide +kernel) (by decide +kernel) rfl hk1 hFc hP1 hD1
    generalize H1 = H at hP hS ⊢
    refine lv_aload_n hx hb (qaa qki 10 rfl) rfl (lv_at hl 1 rfl) ?_
    refine va_get (D := (dC, dI)) (ci := 10) (v := .ref jeG) (C := RX10) (T := TX10) (N := 19) hx hb hts qdD hown hK hP 0 rfl rfl 10 (by decide) (hts _ qais) (fun _ h9 => h9) rfl (qaa qki 11 rfl) ?_
    refine lv_iconst (v := 0) hx hb (qaa qki 12 rfl) (by decide) ?_
    refine va_put (D := (dC, dI)) (ci := 5) (v := .int 0) (ty := .int) (C := RX5) (T := TX5) (N := 2) hx hb hts qary tyX5 tyX5_ok nmX5 hown hK hP hD hS 18 rfl rfl 1 (by decide) (hts _ qafU) (fun _ h9 => h9) rfl (by decide +kernel) rfl rfl (nbq rfl) (qaa qki 13 rfl) (fun H locs hP hD hS => ?_)
    have hP : va_P (dC, dI) vwCl (qabI a0 jaW jg9 jaR jb6 jbc jg6 ja3 jbH jaT jbO jeG jac jbI jbl jbn jkc jcn jbA x1 jaW jf0 x2 x12 x14 x5 x15 x16 jg9 jkh jki jku jkv jkq jjG jkg jmj x8 x9 x10 x13 jkg cyI f11 jf0 cyB ji4 jkh cyI f21 jku cyI f17 jki cyI f22 jkv cyI f18 jkq cyI f19 jjG cyI f20 jb6 jbW jbL jnn jnb x25 jbW cyI f26 jbL cyI f27 jg6 jiM x28 jiM cyI f29 jaT jbb jbr jg9 jb6 jbb cyI f30 jeG jm2 0) H := hP
    have hD : va_D A (qabI a0 jaW jg9 jaR jb6 jbc jg6 ja3 jbH jaT jbO jeG jac jbI jbl jbn jkc jcn jbA x1 jaW jf0 x2 x12 x14 x5 x15 x16 jg9 jkh jki jku jkv jkq jjG jkg jmj x8 x9 x10 x13 jkg cyI f11 jf0 cyB ji4 jkh cyI f21 jku cyI f17 jki cyI f22 jkv cyI f18 jkq cyI f19 jjG cyI f20 jb6 jbW jbL jnn jnb x25 jbW cyI f26 jbL cyI f27 jg6 jiM x28 jiM cyI f29 jaT jbb jbr jg9 jb6 jbb cyI f30 jeG jm2 0) := hD
    refine lv_aload_n hx hb (qaa qki 14 rfl) rfl (lv_at hl 1 rfl) ?_
    refine lv_iconst (v := 0) hx hb (qaa qki 15 rfl) (by decide) ?_
    refine va_put (D := (dC, dI)) (ci := 10) (v := .int 0) (ty := .int) (C := RX10) (T := TX10) (N := 19) hx hb hts qdD tyX10 tyX10_ok nmX10 hown hK hP hD hS 0 rfl rfl 15 (by decide) (hts _ qadk) (fun _ h9 => h9) rfl (by decide +kernel) rfl rfl (nbq rfl) (qaa qvs 0 rfl) (fun H locs hP hD hS => ?_)
    have hP : va_P (dC, dI) vwCl (qabI a0 jaW jg9 jaR jb6 jbc jg6 ja3 jbH jaT jbO jeG jac jbI jbl jbn 0 jcn jbA x1 jaW jf0 x2 x12 x14 x5 x15 x16 jg9 jkh jki jku jkv jkq jjG jkg jmj x8 x9 x10 x13 jkg cyI f11 jf0 cyB ji4 jkh cyI f21 jku cyI f17 jki cyI f22 jkv cyI f18 jkq cyI f19 jjG cyI f20 jb6 jbW jbL jnn jnb x25 jbW cyI f26 jbL cyI f27 jg6 jiM x28 jiM cyI f29 jaT jbb jbr jg9 jb6 jbb cyI f30 jeG jm2 0) H := hP
    have hD : va_D A (qabI a0 jaW jg9 jaR jb6 jbc jg6 ja3 jbH jaT jbO jeG jac jbI jbl jbn 0 jcn jbA x1 jaW jf0 x2 x12 x14 x5 x15 x16 jg9 jkh jki jku jkv jkq jjG jkg jmj x8 x9 x10 x13 jkg cyI f11 jf0 cyB ji4 jkh cyI f21 jku cyI f17 jki cyI f22 jkv cyI f18 jkq cyI f19 jjG cyI f20 jb6 jbW jbL jnn jnb x25 jbW cyI f26 jbL cyI f27 jg6 jiM x28 jiM cyI f29 jaT jbb jbr jg9 jb6 jbb cyI f30 jeG jm2 0) := hD
    refine lv_aload_n hx hb (qaa qvs 1 rfl) rfl (lv_at hl 1 rfl) ?_
    refine lv_iconst (v := 0) hx hb (qaa qvs 2 rfl) (by decide) ?_
    refine va_put (D := (dC, dI)) (ci := 10) (v := .int 0) (ty := .int) (C := RX10) (T := TX10) (N := 19) hx hb hts qdD tyX10 tyX10_ok nmX10 hown hK hP hD hS 0 rfl rfl 16 (by decide) (hts _ qahS) (fun _ h9 => h9) rfl (by decide +kernel) rfl rfl (nbq rfl) (qaa qvs 3 rfl) (fun H locs hP hD hS => ?_)
    have hP : va_P (dC, dI) vwCl (qabI a0 jaW jg9 jaR jb6 jbc jg6 ja3 jbH jaT jbO jeG jac jbI jbl jbn 0 0 jbA x1 jaW jf0 x2 x12 x14 x5 x15 x16 jg9 jkh jki jku jkv jkq jjG jkg jmj x8 x9 x10 x13 jkg cyI f11 jf0 cyB ji4 jkh cyI f21 jku cyI f17 jki cyI f22 jkv cyI f18 jkq cyI f19 jjG cyI f20 jb6 jbW jbL jnn jnb x25 jbW cyI f26 jbL cyI f27 jg6 jiM x28 jiM cyI f29 jaT jbb jbr jg9 jb6 jbb cyI f30 jeG jm2 0) H := hP
    have hD : va_D A (qabI a0 jaW jg9 jaR jb6 jbc jg6 ja3 jbH jaT jbO jeG jac jbI jbl jbn 0 0 jbA x1 jaW jf0 x2 x12 x14 x5 x15 x16 jg9 jkh jki jku jkv jkq jjG jkg jmj x8 x9 x10 x13 jkg cyI f11 jf0 cyB ji4 jkh cyI f21 jku cyI f17 jki cyI f22 jkv cyI f18 jkq cyI f19 jjG cyI f20 jb6 jbW jbL jnn jnb x25 jbW cyI f26 jbL cyI f27 jg6 jiM x28 jiM cyI f29 jaT jbb jbr jg9 jb6 jbb cyI f30 jeG jm2 0) := hD
    refine lv_aload_n hx hb (qaa qvs 4 rfl) rfl (lv_at hl 1 rfl) ?_
    refine va_get (D := (dC, dI)) (ci := 10) (v := .ref jg9) (C := RX10) (T := TX10) (N := 19) hx hb hts qdD hown hK hP 0 rfl rfl 1 (by decide) (hts _ qC4) (fun _ h9 => h9) rfl (qaa qvs 5 rfl) ?_
    refine va_get (D := (dC, dI)) (ci := 2) (v := .int x9) (C := RX2) (T := TX2) (N := 12) hx hb hts qar6 hown hK hP 2 rfl rfl 9 (by decide) (hts _ qafk) (fun _ h9 => h9) rfl (qaa qvs 6 rfl) ?_
    exact vx_ret (W.widen (k := 1) (n := 6) (nbq rfl) (nbq rfl) (W.iret (v := x9) hx hb hr (fun t ht hW => ⟨⟨x9, (x1, x2, x12, x14, x5, x15, x16, x8, x9, x10, f11, x13, f17, f18, f19, f20, f21, f22, (.ref jg9), (.ref jaR), x25, f26, f27, x28, f29, f30, (.ref jg9), (.ref jb6), 0, 0, 0), rfl, hw, by rw [ht]; exact hP, va_K.moved hW.alike hK, hD⟩, hS.F ht⟩) hS.2.2 (qaa qvs 7 rfl)))
  · have hw := hw.2 c24
    refine lv_aload_n hx hb (qaa qlZ 13 rfl) rfl (lv_at hl 0 rfl) ?_
    refine va_get (D := (dC, dI)) (ci := 10) (v := .ref jaW) (C := RX10) (T := TX10) (N := 19) hx hb hts qdD hown hK hP 0 rfl rfl 0 (by decide) (hts _ qJ6) (fun _ h9 => h9) rfl (qaa qlZ 14 rfl) ?_
    refine va_get (D := (dC, dI)) (ci := 8) (v := .int x15) (C := RX8) (T := TX8) (N := 7) hx hb hts qass hown hK hP 1 rfl rfl 5 (by decide) (hts _ qafr) (fun _ h9 => h9) rfl (qaa qlZ 15 rfl) ?_
    refine lv_bipush (v := 10) hx hb (qaa qkh 0 rfl) (by decide) ?_
    refine lv_isub hx hb (qaa qkh 1 rfl) ?_
    exact vx_ret (W.widen (k := 1) (n := 6) (nbq rfl) (nbq rfl) (W.iret (v := (x15 - 10)) hx hb hr (fun t ht hW => ⟨⟨(x15 - 10), (x1, x2, x12, x14, x5, x15, x16, x8, x9, x10, f11, x13, f17, f18, f19, f20, f21, f22, (.ref jaR), (.ref jg9), jdh, jdN, jdi, jlT, jk5, jbQ, jn3, jmF, jje, jkc, jcn), rfl, hw, by rw [ht]; exact hP, va_K.moved hW.alike hK, hD⟩, hS.F ht⟩) hS.2.2 (qaa qkh 2 rfl)))
theorem qaqn : (.classLink RL 13 "java/lang/IllegalArgumentException" : Cond) ∈ wsL_down := qavd 595 (by decide +kernel)
theorem qaJw : (.codeWith yL_down cL_down 4 (some .int) [(0, 9, 12, 13)] : Cond) ∈ wsL_down := qavd 594 (by decide +kernel)
set_option maxHeartbeats 4000000 in
set_option maxRecDepth 100000 in
theorem qaWJ (l : Launch) (dC : Nat → ClassId) (dI : Nat → Nat → Nat) (cyB cyI cyJ cyP : ClassId) (a0 a2 jaW jg9 jkg jf0 jkh jku jki jkv jkq jjG jb6 jbW jbL jg6 jiM jaT jbb jeG jaR sz : Nat) (jbc ja3 jbH jbO jac jbI jbl jbn jbA jmj jnn jnb jbr jm2 : Value) (n2 : Nat) (ji4 : NI) (jbz jk4 jlW jll jj0 jlm jjE jno jnp jnq : Int32) (jnr : NI) (jnB : Int32) (jnC jnD jnE jmV jns jnt : NI) (jdh : Int32) (jdN jdi : NI) (jlT : Int32) (jk5 jbQ : NI) (jn3 jmF : Value) (jje jkc jcn : Int32) (f2 : Nat → Int64) (p1 : Int32) {Q : Int32 → Int32 → Int32 → Int32 → Int32 → Int32 → Int32 → Int32 → Int32 → Int32 → Int32 → NI → Int32 → NI → NI → NI → NI → NI → NI → Value → Value → Int32 → NI → NI → Int32 → NI → NI → Value → Value → Int32 → Int32 → Int32 → (Nat → Int64) → Prop} (hw : qaxf jaR jg9 jb6 n2 ji4 jbz jk4 jlW jll jj0 jlm jjE jno jnp jnq jnr jnB jnC jnD jnE jmV jns jnt (.ref jaR) (.ref jg9) jdh jdN jdi jlT jk5 jbQ jn3 jmF jje jkc jcn f2 p1 Q) : Met l yL_down wsL_down ({ frames := 10, cells := 1, slots := 6, locals := 208 }) (va_Pc [.ref a0, .int p1, .ref a2] (cPs (zE) l (dC, dI) (kT cyB cyI cyJ cyP) (qaj1 a0 jaW jaR jg9 jb6 jbc jg6 ja3 jbH jaT jbO jeG jac jbI jbl jbn jkc jcn jbA jbz jaW jf0 jk4 jlW jll jj0 jlm jjE jg9 jkh jki jku jkv jkq jjG jkg jmj jno jnp jnq jnB jkg cyI jnr jf0 cyB ji4 jkh cyI jns jku cyI jnC jki cyI jnt jkv cyI jnD jkq cyI jnE jjG cyI jmV jb6 jbW jbL jnn jnb jdh jbW cyI jdN jbL cyI jdi jg6 jiM jlT jiM cyI jk5 jaT jbb jbr jn3 jmF jbb cyI jbQ jeG jm2 jje a2 cyJ n2 f2) sz)) (va_Qi (fun (r : Int32) (u : Int32 × Int32 × Int32 × Int32 × Int32 × Int32 × Int32 × Int32 × Int32 × Int32 × NI × Int32 × NI × NI × NI × NI × NI × NI × Value × Value × Int32 × NI × NI × Int32 × NI × NI × Value × Value × Int32 × Int32 × Int32 × (Nat → Int64)) => Q r u.1 u.2.1 u.2.2.1 u.2.2.2.1 u.2.2.2.2.1 u.2.2.2.2.2.1 u.2.2.2.2.2.2.1 u.2.2.2.2.2.2.2.1 u.2.2.2.2.2.2.2.2.1 u.2.2.2.2.2.2.2.2.2.1 u.2.2.2.2.2.2.2.2.2.2.1 u.2.2.2.2.2.2.2.2.2.2.2.1 u.2.2.2.2.2.2.2.2.2.2.2.2.1 u.2.2.2.2.2.2.2.2.2.2.2.2.2.1 u.2.2.2.2.2.2.2.2.2.2.2.2.2.2.1 u.2.2.2.2.2.2.2.2.2.2.2.2.2.2.2.1 u.2.2.2.2.2.2.2.2.2.2.2.2.2.2.2.2.1 u.2.2.2.2.2.2.2.2.2.2.2.2.2.2.2.2.2.1 u.2.2.2.2.2.2.2.2.2.2.2.2.2.2.2.2.2.2.1 u.2.2.2.2.2.2.2.2.2.2.2.2.2.2.2.2.2.2.2.1 u.2.2.2.2.2.2.2.2.2.2.2.2.2.2.2.2.2.2.2.2.1 u.2.2.2.2.2.2.2.2.2.2.2.2.2.2.2.2.2.2.2.2.2.1 u.2.2.2.2.2.2.2.2.2.2.2.2.2.2.2.2.2.2.2.2.2.2.1 u.2.2.2.2.2.2.2.2.2.2.2.2.2.2.2.2.2.2.2.2.2.2.2.1 u.2.2.2.2.2.2.2.2.2.2.2.2.2.2.2.2.2.2.2.2.2.2.2.2.1 u.2.2.2.2.2.2.2.2.2.2.2.2.2.2.2.2.2.2.2.2.2.2.2.2.2.1 u.2.2.2.2.2.2.2.2.2.2.2.2.2.2.2.2.2.2.2.2.2.2.2.2.2.2.1 u.2.2.2.2.2.2.2.2.2.2.2.2.2.2.2.2.2.2.2.2.2.2.2.2.2.2.2.1 u.2.2.2.2.2.2.2.2.2.2.2.2.2.2.2.2.2.2.2.2.2.2.2.2.2.2.2.2.1 u.2.2.2.2.2.2.2.2.2.2.2.2.2.2.2.2.2.2.2.2.2.2.2.2.2.2.2.2.2.1 u.2.2.2.2.2.2.2.2.2.2.2.2.2.2.2.2.2.2.2.2.2.2.2.2.2.2.2.2.2.2.1 u.2.2.2.2.2.2.2.2.2.2.2.2.2.2.2.2.2.2.2.2.2.2.2.2.2.2.2.2.2.2.2) (cB (dC, dI) (kT cyB cyI cyJ cyP) (va_A (qaj1 a0 jaW jaR jg9 jb6 jbc jg6 ja3 jbH jaT jbO jeG jac jbI jbl jbn jkc jcn jbA jbz jaW jf0 jk4 jlW jll jj0 jlm jjE jg9 jkh jki jku jkv jkq jjG jkg jmj jno jnp jnq jnB jkg cyI jnr jf0 cyB ji4 jkh cyI jns jku cyI jnC jki cyI jnt jkv cyI jnD jkq cyI jnE jjG cyI jmV jb6 jbW jbL jnn jnb jdh jbW cyI jdN jbL cyI jdi jg6 jiM jlT jiM cyI jk5 jaT jbb jbr jn3 jmF jbb cyI jbQ jeG jm2 jje a2 cyJ n2 f2) sz) (fun u : Int32 × Int32 × Int32 × Int32 × Int32 × Int32 × Int32 × Int32 × Int32 × Int32 × NI × Int32 × NI × NI × NI × NI × NI × NI × Value × Value × Int32 × NI × NI × Int32 × NI × NI × Value × Value × Int32 × Int32 × Int32 × (Nat → Int64) => ((qanh a0 jaW u.2.2.2.2.2.2.2.2.2.2.2.2.2.2.2.2.2.2.1 u.2.2.2.2.2.2.2.2.2.2.2.2.2.2.2.2.2.2.2.1 jb6 jbc jg6 ja3 jbH jaT jbO jeG jac jbI jbl jbn u.2.2.2.2.2.2.2.2.2.2.2.2.2.2.2.2.2.2.2.2.2.2.2.2.2.2.2.2.2.1 u.2.2.2.2.2.2.2.2.2.2.2.2.2.2.2.2.2.2.2.2.2.2.2.2.2.2.2.2.2.2.1 jbA u.1 jaW jf0 u.2.1 u.2.2.1 u.2.2.2.1 u.2.2.2.2.1 u.2.2.2.2.2.1 u.2.2.2.2.2.2.1 jg9 jkh jki jku jkv jkq jjG jkg jmj u.2.2.2.2.2.2.2.1 u.2.2.2.2.2.2.2.2.1 u.2.2.2.2.2.2.2.2.2.1 u.2.2.2.2.2.2.2.2.2.2.2.1 jkg cyI u.2.2.2.2.2.2.2.2.2.2.1 jf0 cyB ji4 jkh cyI u.2.2.2.2.2.2.2.2.2.2.2.2.2.2.2.2.1 jku cyI u.2.2.2.2.2.2.2.2.2.2.2.2.1 jki cyI u.2.2.2.2.2.2.2.2.2.2.2.2.2.2.2.2.2.1 jkv cyI u.2.2.2.2.2.2.2.2.2.2.2.2.2.1 jkq cyI u.2.2.2.2.2.2.2.2.2.2.2.2.2.2.1 jjG cyI u.2.2.2.2.2.2.2.2.2.2.2.2.2.2.2.1 jb6 jbW jbL jnn jnb u.2.2.2.2.2.2.2.2.2.2.2.2.2.2.2.2.2.2.2.2.1 jbW cyI u.2.2.2.2.2.2.2.2.2.2.2.2.2.2.2.2.2.2.2.2.2.1 jbL cyI u.2.2.2.2.2.2.2.2.2.2.2.2.2.2.2.2.2.2.2.2.2.2.1 jg6 jiM u.2.2.2.2.2.2.2.2.2.2.2.2.2.2.2.2.2.2.2.2.2.2.2.1 jiM cyI u.2.2.2.2.2.2.2.2.2.2.2.2.2.2.2.2.2.2.2.2.2.2.2.2.1 jaT jbb jbr u.2.2.2.2.2.2.2.2.2.2.2.2.2.2.2.2.2.2.2.2.2.2.2.2.2.2.1 u.2.2.2.2.2.2.2.2.2.2.2.2.2.2.2.2.2.2.2.2.2.2.2.2.2.2.2.1 jbb cyI u.2.2.2.2.2.2.2.2.2.2.2.2.2.2.2.2.2.2.2.2.2.2.2.2.2.1 jeG jm2 u.2.2.2.2.2.2.2.2.2.2.2.2.2.2.2.2.2.2.2.2.2.2.2.2.2.2.2.2.1 a2 cyJ n2 u.2.2.2.2.2.2.2.2.2.2.2.2.2.2.2.2.2.2.2.2.2.2.2.2.2.2.2.2.2.2.2) : va_W))) (va_A (qaj1 a0 jaW jaR jg9 jb6 jbc jg6 ja3 jbH jaT jbO jeG jac jbI jbl jbn jkc jcn jbA jbz jaW jf0 jk4 jlW jll jj0 jlm jjE jg9 jkh jki jku jkv jkq jjG jkg jmj jno jnp jnq jnB jkg cyI jnr jf0 cyB ji4 jkh cyI jns jku cyI jnC jki cyI jnt jkv cyI jnD jkq cyI jnE jjG cyI jmV jb6 jbW jbL jnn jnb jdh jbW cyI jdN jbL cyI jdi jg6 jiM jlT jiM cyI jk5 jaT jbb jbr jn3 jmF jbb cyI jbQ jeG jm2 jje a2 cyJ n2 f2) sz)) 1 6 (va_A (qaj1 a0 jaW jaR jg9 jb6 jbc jg6 ja3 jbH jaT jbO jeG jac jbI jbl jbn jkc jcn jbA jbz jaW jf0 jk4 jlW jll jj0 jlm jjE jg9 jkh jki jku jkv jkq jjG jkg jmj jno jnp jnq jnB jkg cyI jnr jf0 cyB ji4 jkh cyI jns jku cyI jnC jki cyI jnt jkv cyI jnD jkq cyI jnE jjG cyI jmV jb6 jbW jbL jnn jnb jdh jbW cyI jdN jbL cyI jdi jg6 jiM jlT jiM cyI jk5 jaT jbb jbr jn3 jmF jbb cyI jbQ jeG jm2 jje a2 cyJ n2 f2) sz) := by
  refine va_MetW (cc := cL_down) (maxL := 4) (ret := (some .int)) (by decide) rfl ?_
  intro p e s m args below meth c s₁ B hml hv
  obtain ⟨rfl, ⟨hsz, hP, hK, hD0, hNw, hXl, hXu, hXn, hXt⟩, hE0⟩ := hv
  have hx := B.exec
  have hb := B.bytes
  have hr := B.returns
  have hts := atoms_spec (ws := wsL_down) B.pre
  have hown : s.vm.findClass RL = some m.cls := findClass_of_methodNamed B.named
  have hlocks := B.notSynchronized
  subst hsz
  have hD := hD0.self (sz := s.heap.size)
  generalize hAe : va_A (qaj1 a0 jaW jaR jg9 jb6 jbc jg6 ja3 jbH jaT jbO jeG jac jbI jbl jbn jkc jcn jbA jbz jaW jf0 jk4 jlW jll jj0 jlm jjE jg9 jkh jki jku jkv jkq jjG jkg jmj jno jnp jnq jnB jkg cyI jnr jf0 cyB ji4 jkh cyI jns jku cyI jnC jki cyI jnt jkv cyI jnD jkq cyI jnE jjG cyI jmV jb6 jbW jbL jnn jnb jdh jbW cyI jdN jbL cyI jdi jg6 jiM jlT jiM cyI jk5 jaT jbb jbr jn3 jmF jbb cyI jbQ jeG jm2 jje a2 cyJ n2 f2) s.heap.size = A at hD hXu hXn hE0 ⊢
  have hA : ∀ q : Nat, s.heap.size ≤ q → A q := fun q h => by rw [← hAe]; exact Or.inr h
  have hS : va_S A s.heap s.heap [] := va_S.rf
  have hP : va_P (dC, dI) vwCl (qaj1 a0 jaW jaR jg9 jb6 jbc jg6 ja3 jbH jaT jbO jeG jac jbI jbl jbn jkc jcn jbA jbz jaW jf0 jk4 jlW jll jj0 jlm jjE jg9 jkh jki jku jkv jkq jjG jkg jmj jno jnp jnq jnB jkg cyI jnr jf0 cyB ji4 jkh cyI jns jku cyI jnC jki cyI jnt jkv cyI jnD jkq cyI jnE jjG cyI jmV jb6 jbW jbL jnn jnb jdh jbW cyI jdN jbL cyI jdi jg6 jiM jlT jiM cyI jk5 jaT jbb jbr jn3 jmF jbb cyI jbQ jeG jm2 jje a2 cyJ n2 f2) s.heap := hP
  have hl := lv_entry ([.ref a0, .int p1, .ref a2]) (n := 4) (nbq rfl)
  rw [lg_entry_eq]
  generalize (lg_sl ([.ref a0, .int p1, .ref a2]) ++ List.replicate (4 - (lg_sl ([.ref a0, .int p1, .ref a2])).length) Slot.unset).toArray = ls at hl ⊢
  have hl : lv_has ls 4 [(0, .ref a0), (1, .int p1), (2, .ref a2)] := hl
  have hY : cfY l s A := ⟨hXl, hXu, hXn, hXt⟩
  have hE := hE0
  have hTb := vx_table (x := yL_down) B (hts _ qaJw)
  clear hAe
  obtain ⟨H, hH⟩ : ∃ H, H = s.heap := ⟨_, rfl⟩
  rw [← hH] at hP ⊢
  have hS : va_S A s.heap H [] := by rw [hH]; exact va_S.rf
  have hS := hS
  refine lv_aload_n hx hb (qaa qs5 0 rfl) rfl (lv_at hl 2 rfl) ?_
  refine lv_iconst (v := 0) hx hb (qaa qs5 1 rfl) (by decide) ?_
  refine lv_aload_n hx hb (qaa qs5 2 rfl) rfl (lv_at hl 0 rfl) ?_
  refine lv_iload_n hx hb (qaa qs5 3 rfl) rfl (lv_at hl 1 rfl) ?_
  obtain ⟨hCc, hPc, hDc, hFc⟩ := qac (ws' := (qzQ a0 jaW jaR jg9 jb6 jbc jg6 ja3 jbH jaT jbO jeG jac jbI jbl jbn jkc jcn jbA jbz jaW jf0 jk4 jlW jll jj0 jlm jjE jg9 jkh jki jku jkv jkq jjG jkg jmj jno jnp jnq jnB jkg cyI jnr jf0 cyB ji4 jkh cyI jns jku cyI jnC jki cyI jnt jkv cyI jnD jkq cyI jnE jjG cyI jmV jb6 jbW jbL jnn jnb jdh jbW cyI jdN jbL cyI jdi jg6 jiM jlT jiM cyI jk5 jaT jbb jbr jn3 jmF jbb cyI jbQ jeG jm2 jje)) hP hD hS hA [0, 1, 2, 3, 4, 5, 6, 7, 8, 9, 10, 11, 12, 13, 14, 15, 16, 17, 18] (by decide +kernel) rfl
  refine vx_calli (vx_runV (As := [.int p1]) (rest := [.int 0, .ref a2]) ⟨hx, hb, hml, hown, hts⟩ (qaQK l dC dI cyB cyI cyJ cyP a0 jaW jg9 jkg jf0 jkh jku jki jkv jkq jjG jaR jb6 jbW jbL jg6 jiM jaT jbb jeG H.size (jbc) (ja3) (jbH) (jbO) (jac) (jbI) (jbl) (jbn) (jbA) (jmj) (jnn) (jnb) (jbr) (jm2) ji4 jbz jk4 jlW jll jj0 jlm jjE jno jnp jnq jnr jnB jnC jnD jnE jmV jns jnt jdh jdN jdi jlT jk5 jbQ jn3 jmF jje jkc jcn p1 hw) (cwV 1 hts gL_down_X10_down rfl rfl rfl (by decide +kernel) ⟨nbq rfl, nbq rfl⟩) ⟨qat qsO, va_recv (q := (RX10, TX10, 19)) hK hPc (ci := 10) (q0 := 0) rfl rfl, qbg qsO hPc hK hDc hNw hY hE hS hFc⟩ rfl rfl hl.1 rfl (lv_room (nbq rfl)) (qaa qs5 4 rfl) ⟨nbq rfl, nbq rfl⟩) hS (fun q _ h => hFc q h) hFc (fun q _ h => hFc q h) (fun en ce qx9 u t H1 locs ht hvm hpx hB hz1 hk1 hS hc9 hv9 hcl9 => ?_) (fun r32 u t H1 locs ht hvm hw hB hz1 hk1 hS => ?_)
  · obtain ⟨x1, x2, x3, x4, x5, x6, x7, x8, x9, x10, f11, x12, f13, f14, f15, f16, f17, f18, q19, q20, x21, f22, f23, x24, f25, f26, q27, q28, x29, x30, x31⟩ := u
    obtain ⟨hw, hP1, hK1, hD1⟩ := hB
    rw [ht] at hP1
    obtain ⟨hP, hD⟩ := qad (wr := [(a2, .inl (cyJ, n2, .inr (.inl f2)))]) (w1 := (qaR2 a0 jaW q19 q20 jb6 jbc jg6 ja3 jbH jaT jbO jeG jac jbI jbl jbn x30 x31 jbA x1 jaW jf0 x2 x3 x4 x5 x6 x7 jg9 jkh jki jku jkv jkq jjG jkg jmj x8 x9 x10 x12 jkg cyI f11 jf0 cyB ji4 jkh cyI f17 jku cyI f13 jki cyI f18 jkv cyI f14 jkq cyI f15 jjG cyI f16 jb6 jbW jbL jnn jnb x21 jbW cyI f22 jbL cyI f23 jg6 jiM x24 jiM cyI f25 jaT jbb jbr q27 q28 jbb cyI f26 jeG jm2 x29)) (wn := (qanh a0 jaW q19 q20 jb6 jbc jg6 ja3 jbH jaT jbO jeG jac jbI jbl jbn x30 x31 jbA x1 jaW jf0 x2 x3 x4 x5 x6 x7 jg9 jkh jki jku jkv jkq jjG jkg jmj x8 x9 x10 x12 jkg cyI f11 jf0 cyB ji4 jkh cyI f17 jku cyI f13 jki cyI f18 jkv cyI f14 jkq cyI f15 jjG cyI f16 jb6 jbW jbL jnn jnb x21 jbW cyI f22 jbL cyI f23 jg6 jiM x24 jiM cyI f25 jaT jbb jbr q27 q28 jbb cyI f26 jeG jm2 x29 a2 cyJ n2 f2)) hP hD [0, 1, 2, 3, 4, 5, 6, 7, 8, 9, 10, 11, 12, 13, 14, 15, 16, 17, 18] [19] [1, 2, 3, 4, 5, 6, 7, 8, 9, 10, 11, 12, 13, 14, 15, 16, 17, 18, 19, 0] hCc rfl (by decide +kernel) (by decide +kernel) (by decide +kernel) rfl hk1 hFc hP1 hD1
    generalize H1 = H at hP hS hc9 ⊢
    obtain ⟨rfl, hw⟩ := hw
    refine vx_catch (own := RL) (name := "java/lang/IllegalArgumentException") hown [] ⟨0, 9, 12, 13⟩ [] (hTb.trans rfl) (fun z hz => nomatch hz) (by decide) (by decide) (hts _ qaqn) (va_Nw.use rfl (hY.2.2.2.1.2 _ (List.mem_of_getElem? (i := 0) rfl))) hc9 hv9 hcl9 ?_
    refine lv_astore_n (lv' := [(3, .ref qx9), (0, .ref a0), (1, .int p1), (2, .ref a2)]) hx hb (qaa qs5 8 rfl) rfl hl (by decide) rfl (fun ls hl => ?_)
    refine lv_iconst (v := 1) hx hb (qaa qs5 9 rfl) (by decide) ?_
    exact (W.widen (k := 1) (n := 6) (nbq rfl) (nbq rfl) (W.iret (v := 1) hx hb hr (fun t ht hW => ⟨⟨1, (x1, x2, x3, x4, x5, x6, x7, x8, x9, x10, f11, x12, f13, f14, f15, f16, f17, f18, q19, q20, x21, f22, f23, x24, f25, f26, q27, q28, x29, x30, x31, f2), rfl, hw, by rw [ht]; exact hP, va_K.moved hW.alike hK, hD⟩, hS.F ht⟩) hS.2.2 (qaa qs5 10 rfl)))
  obtain ⟨x1, x2, x3, x4, x5, x6, x7, x8, x9, x10, f11, x12, f13, f14, f15, f16, f17, f18, q19, q20, x21, f22, f23, x24, f25, f26, q27, q28, x29, x30, x31⟩ := u
  obtain ⟨hP1, hK1, hD1⟩ := hB
  rw [ht] at hP1
  obtain ⟨hP, hD⟩ := va_join (wr := [(a2, .inl (cyJ, n2, .inr (.inl f2)))]) (w1 := (qaR2 a0 jaW q19 q20 jb6 jbc jg6 ja3 jbH jaT jbO jeG jac jbI jbl jbn x30 x31 jbA x1 jaW jf0 x2 x3 x4 x5 x6 x7 jg9 jkh jki jku jkv jkq jjG jkg jmj x8 x9 x10 x12 jkg cyI f11 jf0 cyB ji4 jkh cyI f17 jku cyI f13 jki cyI f18 jkv cyI f14 jkq cyI f15 jjG cyI f16 jb6 jbW jbL jnn jnb x21 jbW cyI f22 jbL cyI f23 jg6 jiM x24 jiM cyI f25 jaT jbb jbr q27 q28 jbb cyI f26 jeG jm2 x29)) hP hD [0, 1, 2, 3, 4, 5, 6, 7, 8, 9, 10, 11, 12, 13, 14, 15, 16, 17, 18] [19] rfl rfl (by decide) (by decide) hk1 hFc hP1 hD1
  have hP : va_P (dC, dI) vwCl (qanh a0 jaW q19 q20 jb6 jbc jg6 ja3 jbH jaT jbO jeG jac jbI jbl jbn x30 x31 jbA x1 jaW jf0 x2 x3 x4 x5 x6 x7 jg9 jkh jki jku jkv jkq jjG jkg jmj x8 x9 x10 x12 jkg cyI f11 jf0 cyB ji4 jkh cyI f17 jku cyI f13 jki cyI f18 jkv cyI f14 jkq cyI f15 jjG cyI f16 jb6 jbW jbL jnn jnb x21 jbW cyI f22 jbL cyI f23 jg6 jiM x24 jiM cyI f25 jaT jbb jbr q27 q28 jbb cyI f26 jeG jm2 x29 a2 cyJ n2 f2) H1 := hP.sub [1, 2, 3, 4, 5, 6, 7, 8, 9, 10, 11, 12, 13, 14, 15, 16, 17, 18, 19, 0] rfl
  have hD : va_D A (qanh a0 jaW q19 q20 jb6 jbc jg6 ja3 jbH jaT jbO jeG jac jbI jbl jbn x30 x31 jbA x1 jaW jf0 x2 x3 x4 x5 x6 x7 jg9 jkh jki jku jkv jkq jjG jkg jmj x8 x9 x10 x12 jkg cyI f11 jf0 cyB ji4 jkh cyI f17 jku cyI f13 jki cyI f18 jkv cyI f14 jkq cyI f15 jjG cyI f16 jb6 jbW jbL jnn jnb x21 jbW cyI f22 jbL cyI f23 jg6 jiM x24 jiM cyI f25 jaT jbb jbr q27 q28 jbb cyI f26 jeG jm2 x29 a2 cyJ n2 f2) := hD.sub [1, 2, 3, 4, 5, 6, 7, 8, 9, 10, 11, 12, 13, 14, 15, 16, 17, 18, 19, 0] (by decide) rfl
  generalize H1 = H at hP hS ⊢
  refine lv_i2l (v := r32.toInt64) hx hb (qaa qs5 5 rfl) rfl ?_
  refine lv_topl (fun x33 ex33 => ?_)
  have hw := hw x33 ex33
  obtain ⟨hi9, hw⟩ := hw
  refine va_last hx hb hK hP hD hS 19 2 rfl rfl hi9 (qaa qs5 6 rfl) (fun H locs hP hD hS => ?_)
  obtain ⟨f34, ef34⟩ : ∃ y : Nat → Int64, y = vp_updL f2 (0 : Int32).toNatClampNeg x33 := ⟨_, rfl⟩
  have hw := hw f34 ef34
  have hP : va_P (dC, dI) vwCl (qanh a0 jaW q19 q20 jb6 jbc jg6 ja3 jbH jaT jbO jeG jac jbI jbl jbn x30 x31 jbA x1 jaW jf0 x2 x3 x4 x5 x6 x7 jg9 jkh jki jku jkv jkq jjG jkg jmj x8 x9 x10 x12 jkg cyI f11 jf0 cyB ji4 jkh cyI f17 jku cyI f13 jki cyI f18 jkv cyI f14 jkq cyI f15 jjG cyI f16 jb6 jbW jbL jnn jnb x21 jbW cyI f22 jbL cyI f23 jg6 jiM x24 jiM cyI f25 jaT jbb jbr q27 q28 jbb cyI f26 jeG jm2 x29 a2 cyJ n2 f34) H := by rw [ef34]; exact hP
  have hD : va_D A (qanh a0 jaW q19 q20 jb6 jbc jg6 ja3 jbH jaT jbO jeG jac jbI jbl jbn x30 x31 jbA x1 jaW jf0 x2 x3 x4 x5 x6 x7 jg9 jkh jki jku jkv jkq jjG jkg jmj x8 x9 x10 x12 jkg cyI f11 jf0 cyB ji4 jkh cyI f17 jku cyI f13 jki cyI f18 jkv cyI f14 jkq cyI f15 jjG cyI f16 jb6 jbW jbL jnn jnb x21 jbW cyI f22 jbL cyI f23 jg6 jiM x24 jiM cyI f25 jaT jbb jbr q27 q28 jbb cyI f26 jeG jm2 x29 a2 cyJ n2 f34) := by rw [ef34]; exact hD
  refine lv_goto (tgt := 15) hx hb (qaa qs5 7 rfl) (by decide) ?_
  refine lv_iconst (v := 0) hx hb (qaa qs5 11 rfl) (by decide) ?_
  exact (W.widen (k := 1) (n := 6) (nbq rfl) (nbq rfl) (W.iret (v := 0) hx hb hr (fun t ht hW => ⟨⟨0, (x1, x2, x3, x4, x5, x6, x7, x8, x9, x10, f11, x12, f13, f14, f15, f16, f17, f18, q19, q20, x21, f22, f23, x24, f25, f26, q27, q28, x29, x30, x31, f34), rfl, hw, by rw [ht]; exact hP, va_K.moved hW.alike hK, hD⟩, hS.F ht⟩) hS.2.2 (qaa qs5 12 rfl)))
theorem qs2 : ∀ w ∈ u_ws RX9 TX9 12, w ∈ wsX9_readStep := uiM qnD euX9 (by decide +kernel)
theorem quW : (.fieldLink RX9 30 "MarchHares$Work" "hares" "I" : Cond) ∈ wsX9_readStep := qnD 1604 (by decide +kernel)
theorem q6C : (.fieldLink RX9 34 "MarchHares$Work" "forms" "I" : Cond) ∈ wsX9_readStep := qnD 1605 (by decide +kernel)
set_option maxHeartbeats 4000000 in
set_option maxRecDepth 100000 in
theorem quT {p : Program} {l : Launch} {e : Env} {s : State} {m : MethodId} {args : Array Value} {below : List Frame} {meth : Method} {c : Code} {A : Nat → Prop} (dC : Nat → ClassId) (dI : Nat → Nat → Nat) (cyB cyI cyJ cyP : ClassId) (a0 a1 jbF jbU jgF jgh jhq jju : Nat) (jkw jaH jaF jcI : Value) (jaC jaN jb5 : Int32) (jcq : NI) (Q : Int32 → Int32 → Int32 → Int32 → NI → NI → NI → NI → Int32 → NI → Int32 → Prop) (C0 : cfx p s m args meth c cX9_readStep none wsX9_readStep RX9 4 A (dC, dI) (kT cyB cyI cyJ cyP) ∧ cfY l s A ∧ zE A s s.heap) : ∀ (H : Heap) (locs : List Loc) (ls : Array Slot) (jhS jeF jcU jbM : Int32) (jdC jiX jiF jjg : NI) (jb7 : Int32) (jlb : NI) (jjF : Int32), va_P (dC, dI) vwCl (qr2 a0 jbU jgF jgh jhq jju jkw jb7 jjF jaC jaN jaH jaF a1 jbF jb5 jhS jeF jcI jcU jbM jbF cyB jcq jbU cyI jdC jgF cyI jiX jgh cyI jiF jhq cyI jjg jju cyI jlb) H → va_D A (qr2 a0 jbU jgF jgh jhq jju jkw jb7 jjF jaC jaN jaH jaF a1 jbF jb5 jhS jeF jcI jcU jbM jbF cyB jcq jbU cyI jdC jgF cyI jiX jgh cyI jiF jhq cyI jjg jju cyI jlb) → va_S A s.heap H locs → lv_has ls 4 [(1, .ref a1)] → qp6 jaC jaN jb5 jcq Q jhS jeF jcU jbM jdC jiX jiF jjg jb7 jlb jjF → W p l e (headSpec wsX9_readStep ({ frames := 5, cells := 0, slots := 0, locals := 108 })).room s m args below meth c H locs 0 0 (MQ below (va_Qv (fun (u : Int32 × Int32 × Int32 × Int32 × NI × NI × NI × NI × Int32 × NI × Int32) => Q u.1 u.2.1 u.2.2.1 u.2.2.2.1 u.2.2.2.2.1 u.2.2.2.2.2.1 u.2.2.2.2.2.2.1 u.2.2.2.2.2.2.2.1 u.2.2.2.2.2.2.2.2.1 u.2.2.2.2.2.2.2.2.2.1 u.2.2.2.2.2.2.2.2.2.2) (cB (dC, dI) (kT cyB cyI cyJ cyP) A (fun u : Int32 × Int32 × Int32 × Int32 × NI × NI × NI × NI × Int32 × NI × Int32 => ((qr2 a0 jbU jgF jgh jhq jju jkw u.2.2.2.2.2.2.2.2.1 u.2.2.2.2.2.2.2.2.2.2 jaC jaN jaH jaF a1 jbF jb5 u.1 u.2.1 jcI u.2.2.1 u.2.2.2.1 jbF cyB jcq jbU cyI u.2.2.2.2.1 jgF cyI u.2.2.2.2.2.1 jgh cyI u.2.2.2.2.2.2.1 jhq cyI u.2.2.2.2.2.2.2.1 jju cyI u.2.2.2.2.2.2.2.2.2.1) : va_W))) A) args s 0 0 A) (F0 m 173 ls []) := by
  obtain ⟨⟨hx, hb, hr, hts, hown, hlocks, hml, hA, hK, hNw⟩, hY, hE0⟩ := id C0
  have hE := hE0
  intro H locs ls jhS jeF jcU jbM jdC jiX jiF jjg jb7 jlb jjF hP hD hS hl hw
  refine lv_aload_n hx hb (qaa qoP 5 rfl) rfl (lv_at hl 0 rfl) ?_
  refine lv_bipush (v := 59) hx hb (qaa qoP 6 rfl) (by decide) ?_
  obtain ⟨hCc, hPc, hDc, hFc⟩ := qac (ws' := (qqZ a1 jbF jb5 jhS jeF jcI jcU jbM jbF cyB jcq)) hP hD hS hA [1, 2] (by decide +kernel) rfl
  refine va_callv (va_runV (As := [.int 59]) (rest := []) ⟨hx, hb, hml, hown, hts⟩ (qtg l dC dI cyB cyI cyJ cyP a1 jbF H.size (jcI) jb5 jcq jhS jeF jcU jbM 59 hw) (cwV 1 hts gX9_readStep_X8_needs rfl rfl rfl (by decide +kernel) ⟨nbq rfl, nbq rfl⟩) ⟨qab, va_recv (q := (RX8, TX8, 7)) hK hPc (ci := 8) (q0 := 0) rfl rfl, qae hPc hK hDc hNw⟩ rfl rfl hl.1 rfl (lv_room (nbq rfl)) (qaa qoP 7 rfl) ⟨nbq rfl, nbq rfl⟩) hS (fun q _ h => hFc q h) hFc (fun u t H1 locs ht hvm hw hB hz1 hk1 hS => ?_)
  obtain ⟨x95, x96, x97, x98⟩ := u
  obtain ⟨hP1, hK1, hD1⟩ := hB
  rw [ht] at hP1
  obtain ⟨hP, hD⟩ := qad (wr := (qIs a0 jbU jgF jgh jhq jju jkw jb7 jjF jaC jaN jaH jaF jbU cyI jdC jgF cyI jiX jgh cyI jiF jhq cyI jjg jju cyI jlb)) (w1 := (qqZ a1 jbF jb5 x95 x96 jcI x97 x98 jbF cyB jcq)) (wn := (qr2 a0 jbU jgF jgh jhq jju jkw jb7 jjF jaC jaN jaH jaF a1 jbF jb5 x95 x96 jcI x97 x98 jbF cyB jcq jbU cyI jdC jgF cyI jiX jgh cyI jiF jhq cyI jjg jju cyI jlb)) hP hD [1, 2] [0, 3, 4, 5, 6, 7] [0, 6, 7, 1, 2, 3, 4, 5] hCc rfl (by decide +kernel) (by decide +kernel) (by decide +kernel) rfl hk1 hFc hP1 hD1
  generalize H1 = H at hP hS ⊢
  exact ((W.vret hx hb hr (fun t ht hW => ⟨⟨(x95, x96, x97, x98, jdC, jiX, jiF, jjg, jb7, jlb, jjF), rfl, hw, by rw [ht]; exact hP, va_K.moved hW.alike hK, hD⟩, hS.F ht⟩) hS.2.2 (qaa qoP 8 rfl)))
set_option maxHeartbeats 4000000 in
set_option maxRecDepth 100000 in
theorem qao1 (l : Launch) (dC : Nat → ClassId) (dI : Nat → Nat → Nat) (cyB cyI cyJ cyP : ClassId) (a0 a1 jbF jbU jgF jgh jhq jju sz : Nat) (jkw jaH jaF jcI : Value) (jaC jaN jb5 : Int32) (jcq : NI) (jhS jeF jcU jbM : Int32) (jdC jiX jiF jjg : NI) (jb7 : Int32) (jlb : NI) (jjF : Int32) {Q : Int32 → Int32 → Int32 → Int32 → NI → NI → NI → NI → Int32 → NI → Int32 → Prop} (hw : qMk jaC jaN jb5 jcq jhS jeF jcU jbM jdC jiX jiF jjg jb7 jlb jjF Q) : Met l yX9_readStep wsX9_readStep ({ frames := 5, cells := 0, slots := 0, locals := 108 }) (va_Pc [.ref a0, .ref a1] (cPs (zE) l (dC, dI) (kT cyB cyI cyJ cyP) (qr2 a0 jbU jgF jgh jhq jju jkw jb7 jjF jaC jaN jaH jaF a1 jbF jb5 jhS jeF jcI jcU jbM jbF cyB jcq jbU cyI jdC jgF cyI jiX jgh cyI jiF jhq cyI jjg jju cyI jlb) sz)) (va_Qv (fun (u : Int32 × Int32 × Int32 × Int32 × NI × NI × NI × NI × Int32 × NI × Int32) => Q u.1 u.2.1 u.2.2.1 u.2.2.2.1 u.2.2.2.2.1 u.2.2.2.2.2.1 u.2.2.2.2.2.2.1 u.2.2.2.2.2.2.2.1 u.2.2.2.2.2.2.2.2.1 u.2.2.2.2.2.2.2.2.2.1 u.2.2.2.2.2.2.2.2.2.2) (cB (dC, dI) (kT cyB cyI cyJ cyP) (va_A (qr2 a0 jbU jgF jgh jhq jju jkw jb7 jjF jaC jaN jaH jaF a1 jbF jb5 jhS jeF jcI jcU jbM jbF cyB jcq jbU cyI jdC jgF cyI jiX jgh cyI jiF jhq cyI jjg jju cyI jlb) sz) (fun u : Int32 × Int32 × Int32 × Int32 × NI × NI × NI × NI × Int32 × NI × Int32 => ((qr2 a0 jbU jgF jgh jhq jju jkw u.2.2.2.2.2.2.2.2.1 u.2.2.2.2.2.2.2.2.2.2 jaC jaN jaH jaF a1 jbF jb5 u.1 u.2.1 jcI u.2.2.1 u.2.2.2.1 jbF cyB jcq jbU cyI u.2.2.2.2.1 jgF cyI u.2.2.2.2.2.1 jgh cyI u.2.2.2.2.2.2.1 jhq cyI u.2.2.2.2.2.2.2.1 jju cyI u.2.2.2.2.2.2.2.2.2.1) : va_W))) (va_A (qr2 a0 jbU jgF jgh jhq jju jkw jb7 jjF jaC jaN jaH jaF a1 jbF jb5 jhS jeF jcI jcU jbM jbF cyB jcq jbU cyI jdC jgF cyI jiX jgh cyI jiF jhq cyI jjg jju cyI jlb) sz)) 0 0 (va_A (qr2 a0 jbU jgF jgh jhq jju jkw jb7 jjF jaC jaN jaH jaF a1 jbF jb5 jhS jeF jcI jcU jbM jbF cyB jcq jbU cyI jdC jgF cyI jiX jgh cyI jiF jhq cyI jjg jju cyI jlb) sz) := by
  refine Met.ofW (cc := cX9_readStep) (maxL := 4) (ret := none) (by decide) rfl ?_
  intro p e s m args below meth c s₁ B hml hv
  obtain ⟨rfl, ⟨hsz, hP, hK, hD0, hNw, hXl, hXu, hXn, hXt⟩, hE0⟩ := hv
  have hx := B.exec
  have hb := B.bytes
  have hr := B.returns
  have hts := atoms_spec (ws := wsX9_readStep) B.pre
  have hown : s.vm.findClass RX9 = some m.cls := findClass_of_methodNamed B.named
  have hlocks := B.notSynchronized
  subst hsz
  have hD := hD0.self (sz := s.heap.size)
  generalize hAe : va_A (qr2 a0 jbU jgF jgh jhq jju jkw jb7 jjF jaC jaN jaH jaF a1 jbF jb5 jhS jeF jcI jcU jbM jbF cyB jcq jbU cyI jdC jgF cyI jiX jgh cyI jiF jhq cyI jjg jju cyI jlb) s.heap.size = A at hD hXu hXn hE0 ⊢
  have hA : ∀ q : Nat, s.heap.size ≤ q → A q := fun q h => by rw [← hAe]; exact Or.inr h
  have hS : va_S A s.heap s.heap [] := va_S.rf
  have hP : va_P (dC, dI) vwCl (qr2 a0 jbU jgF jgh jhq jju jkw jb7 jjF jaC jaN jaH jaF a1 jbF jb5 jhS jeF jcI jcU jbM jbF cyB jcq jbU cyI jdC jgF cyI jiX jgh cyI jiF jhq cyI jjg jju cyI jlb) s.heap := hP
  have hl := lv_entry ([.ref a0, .ref a1]) (n := 4) (nbq rfl)
  rw [lg_entry_eq]
  generalize (lg_sl ([.ref a0, .ref a1]) ++ List.replicate (4 - (lg_sl ([.ref a0, .ref a1])).length) Slot.unset).toArray = ls at hl ⊢
  have hl : lv_has ls 4 [(0, .ref a0), (1, .ref a1)] := hl
  have hY : cfY l s A := ⟨hXl, hXu, hXn, hXt⟩
  have C0 : cfx p s m _ meth c cX9_readStep none wsX9_readStep RX9 4 A (dC, dI) (kT cyB cyI cyJ cyP) ∧ cfY l s A ∧ zE A s s.heap := ⟨⟨hx, hb, hr, hts, hown, hlocks, hml, hA, hK, hNw⟩, hY, hE0⟩
  have hE := hE0
  clear hAe
  obtain ⟨H, hH⟩ : ∃ H, H = s.heap := ⟨_, rfl⟩
  rw [← hH] at hP ⊢
  have hS : va_S A s.heap H [] := by rw [hH]; exact va_S.rf
  have hS := hS
  refine lv_aload_n hx hb (qaa qfu 0 rfl) rfl (lv_at hl 1 rfl) ?_
  obtain ⟨k1, hRk1, hZk1⟩ := qbbY hE
  refine va_ldcS hx hb hown hRk1 (qaa qfu 1 rfl) ?_
  obtain ⟨hCc, hPc, hDc, hFc⟩ := qac (ws' := (qqZ a1 jbF jb5 jhS jeF jcI jcU jbM jbF cyB jcq)) hP hD hS hA [1, 2] (by decide +kernel) rfl
  refine va_calli (va_runV (As := [.ref k1]) (rest := []) ⟨hx, hb, hml, hown, hts⟩ (qb9 l dC dI cyB cyI cyJ cyP a1 k1 jbF H.size (jcI) (.int jbM) 5 q46 jb5 jcU jcq jhS jeF hw) (cwV 1 hts gX9_readStep_X8_takesWord rfl rfl rfl (by decide +kernel) ⟨nbq rfl, nbq rfl⟩) ⟨qat qsS, va_recv (q := (RX8, TX8, 7)) hK hPc (ci := 8) (q0 := 0) rfl rfl, qbg qsS hPc hK hDc hNw hY ⟨hE, hZk1⟩ hS hFc⟩ rfl rfl hl.1 rfl (lv_room (nbq rfl)) (qaa qfu 2 rfl) ⟨nbq rfl, nbq rfl⟩) hS (fun q _ h => hFc q h) hFc (fun r4 u t H1 locs ht hvm hw hB hz1 hk1 hS => ?_)
  obtain ⟨x2, x3⟩ := u
  obtain ⟨hP1, hK1, hD1⟩ := hB
  rw [ht] at hP1
  obtain ⟨hP, hD⟩ := qad (wr := (qIs a0 jbU jgF jgh jhq jju jkw jb7 jjF jaC jaN jaH jaF jbU cyI jdC jgF cyI jiX jgh cyI jiF jhq cyI jjg jju cyI jlb)) (w1 := (qqZ a1 jbF jb5 x2 x3 jcI jcU jbM jbF cyB jcq)) (wn := (qr2 a0 jbU jgF jgh jhq jju jkw jb7 jjF jaC jaN jaH jaF a1 jbF jb5 x2 x3 jcI jcU jbM jbF cyB jcq jbU cyI jdC jgF cyI jiX jgh cyI jiF jhq cyI jjg jju cyI jlb)) hP hD [1, 2] [0, 3, 4, 5, 6, 7] [0, 6, 7, 1, 2, 3, 4, 5] hCc rfl (by decide +kernel) (by decide +kernel) (by decide +kernel) rfl hk1 hFc hP1 hD1
  generalize H1 = H at hP hS ⊢
  refine lv_if_eq (tgt := 15) hx hb (qaa qfu 3 rfl) (by decide) (fun c5 => ?_) (fun c5 => ?_)
  · have hw := hw.1 c5
    refine lv_aload_n hx hb (qaa qfu 8 rfl) rfl (lv_at hl 1 rfl) ?_
    obtain ⟨k6, hRk6, hZk6⟩ := qbbg hE
    refine va_ldcS hx hb hown hRk6 (qaa qfu 9 rfl) ?_
    obtain ⟨hCc, hPc, hDc, hFc⟩ := qac (ws' := (qqZ a1 jbF jb5 x2 x3 jcI jcU jbM jbF cyB jcq)) hP hD hS hA [1, 2] (by decide +kernel) rfl
    refine va_calli (va_runV (As := [.ref k6]) (rest := []) ⟨hx, hb, hml, hown, hts⟩ (qb9 l dC dI cyB cyI cyJ cyP a1 k6 jbF H.size (jcI) (.int jbM) 4 q43 jb5 jcU jcq x2 x3 hw) (cwV 1 hts gX9_readStep_X8_takesWord rfl rfl rfl (by decide +kernel) ⟨nbq rfl, nbq rfl⟩) ⟨qat qsS, va_recv (q := (RX8, TX8, 7)) hK hPc (ci := 8) (q0 := 0) rfl rfl, qbg qsS hPc hK hDc hNw hY ⟨hE, hZk6⟩ hS hFc⟩ rfl rfl hl.1 rfl (lv_room (nbq rfl)) (qaa qfu 10 rfl) ⟨nbq rfl, nbq rfl⟩) hS (fun q _ h => hFc q h) hFc (fun r9 u t H1 locs ht hvm hw hB hz1 hk1 hS => ?_)
    obtain ⟨x7, x8⟩ := u
    obtain ⟨hP1, hK1, hD1⟩ := hB
    rw [ht] at hP1
    obtain ⟨hP, hD⟩ := qad (wr := (qIs a0 jbU jgF jgh jhq jju jkw jb7 jjF jaC jaN jaH jaF jbU cyI jdC jgF cyI jiX jgh cyI jiF jhq cyI jjg jju cyI jlb)) (w1 := (qqZ a1 jbF jb5 x7 x8 jcI jcU jbM jbF cyB jcq)) (wn := (qr2 a0 jbU jgF jgh jhq jju jkw jb7 jjF jaC jaN jaH jaF a1 jbF jb5 x7 x8 jcI jcU jbM jbF cyB jcq jbU cyI jdC jgF cyI jiX jgh cyI jiF jhq cyI jjg jju cyI jlb)) hP hD [1, 2] [0, 3, 4, 5, 6, 7] [0, 6, 7, 1, 2, 3, 4, 5] hCc rfl (by decide +kernel) (by decide +kernel) (by decide +kernel) rfl hk1 hFc hP1 hD1
    generalize H1 = H at hP hS ⊢
    refine lv_if_eq (tgt := 57) hx hb (qaa qfu 11 rfl) (by decide) (fun c10 => ?_) (fun c10 => ?_)
    · have hw := hw.1 c10
      refine lv_aload_n hx hb (qaa qer 1 rfl) rfl (lv_at hl 1 rfl) ?_
      obtain ⟨k11, hRk11, hZk11⟩ := qba4 hE
      refine va_ldcS hx hb hown hRk11 (qaa qer 2 rfl) ?_
      obtain ⟨hCc, hPc, hDc, hFc⟩ := qac (ws' := (qqZ a1 jbF jb5 x7 x8 jcI jcU jbM jbF cyB jcq)) hP hD hS hA [1, 2] (by decide +kernel) rfl
      refine va_calli (va_runV (As := [.ref k11]) (rest := []) ⟨hx, hb, hml, hown, hts⟩ (qb9 l dC dI cyB cyI cyJ cyP a1 k11 jbF H.size (jcI) (.int jbM) 3 q5g jb5 jcU jcq x7 x8 hw) (cwV 1 hts gX9_readStep_X8_takesWord rfl rfl rfl (by decide +kernel) ⟨nbq rfl, nbq rfl⟩) ⟨qat qsS, va_recv (q := (RX8, TX8, 7)) hK hPc (ci := 8) (q0 := 0) rfl rfl, qbg qsS hPc hK hDc hNw hY ⟨hE, hZk11⟩ hS hFc⟩ rfl rfl hl.1 rfl (lv_room (nbq rfl)) (qaa qer 3 rfl) ⟨nbq rfl, nbq rfl⟩) hS (fun q _ h => hFc q h) hFc (fun r14 u t H1 locs ht hvm hw hB hz1 hk1 hS => ?_)
      obtain ⟨x12, x13⟩ := u
      obtain ⟨hP1, hK1, hD1⟩ := hB
      rw [ht] at hP1
      obtain ⟨hP, hD⟩ := qad (wr := (qIs a0 jbU jgF jgh jhq jju jkw jb7 jjF jaC jaN jaH jaF jbU cyI jdC jgF cyI jiX jgh cyI jiF jhq cyI jjg jju cyI jlb)) (w1 := (qqZ a1 jbF jb5 x12 x13 jcI jcU jbM jbF cyB jcq)) (wn := (qr2 a0 jbU jgF jgh jhq jju jkw jb7 jjF jaC jaN jaH jaF a1 jbF jb5 x12 x13 jcI jcU jbM jbF cyB jcq jbU cyI jdC jgF cyI jiX jgh cyI jiF jhq cyI jjg jju cyI jlb)) hP hD [1, 2] [0, 3, 4, 5, 6, 7] [0, 6, 7, 1, 2, 3, 4, 5] hCc rfl (by decide +kernel) (by decide +kernel) (by decide +kernel) rfl hk1 hFc hP1 hD1
      generalize H1 = H at hP hS ⊢
      refine lv_if_eq (tgt := 99) hx hb (qaa qer 4 rfl) (by decide) (fun c15 => ?_) (fun c15 => ?_)
      · have hw := hw.1 c15
        refine lv_aload_n hx hb (qaa qee 10 rfl) rfl (lv_at hl 1 rfl) ?_
        obtain ⟨k16, hRk16, hZk16⟩ := qbbf hE
        refine va_ldcS hx hb hown hRk16 (qaa qee 11 rfl) ?_
        obtain ⟨hCc, hPc, hDc, hFc⟩ := qac (ws' := (qqZ a1 jbF jb5 x12 x13 jcI jcU jbM jbF cyB jcq)) hP hD hS hA [1, 2] (by decide +kernel) rfl
        refine va_calli (va_runV (As := [.ref k16]) (rest := []) ⟨hx, hb, hml, hown, hts⟩ (qb9 l dC dI cyB cyI cyJ cyP a1 k16 jbF H.size (jcI) (.int jbM) 3 q5i jb5 jcU jcq x12 x13 hw) (cwV 1 hts gX9_readStep_X8_takesWord rfl rfl rfl (by decide +kernel) ⟨nbq rfl, nbq rfl⟩) ⟨qat qsS, va_recv (q := (RX8, TX8, 7)) hK hPc (ci := 8) (q0 := 0) rfl rfl, qbg qsS hPc hK hDc hNw hY ⟨hE, hZk16⟩ hS hFc⟩ rfl rfl hl.1 rfl (lv_room (nbq rfl)) (qaa qee 12 rfl) ⟨nbq rfl, nbq rfl⟩) hS (fun q _ h => hFc q h) hFc (fun r19 u t H1 locs ht hvm hw hB hz1 hk1 hS => ?_)
        obtain ⟨x17, x18⟩ := u
        obtain ⟨hP1, hK1, hD1⟩ := hB
        rw [ht] at hP1
        obtain ⟨hP, hD⟩ := qad (wr := (qIs a0 jbU jgF jgh jhq jju jkw jb7 jjF jaC jaN jaH jaF jbU cyI jdC jgF cyI jiX jgh cyI jiF jhq cyI jjg jju cyI jlb)) (w1 := (qqZ a1 jbF jb5 x17 x18 jcI jcU jbM jbF cyB jcq)) (wn := (qr2 a0 jbU jgF jgh jhq jju jkw jb7 jjF jaC jaN jaH jaF a1 jbF jb5 x17 x18 jcI jcU jbM jbF cyB jcq jbU cyI jdC jgF cyI jiX jgh cyI jiF jhq cyI jjg jju cyI jlb)) hP hD [1, 2] [0, 3, 4, 5, 6, 7] [0, 6, 7, 1, 2, 3, 4, 5] hCc rfl (by decide +kernel) (by decide +kernel) (by decide +kernel) rfl hk1 hFc hP1 hD1
        generalize H1 = H at hP hS ⊢
        refine lv_if_eq (tgt := 149) hx hb (qaa qee 13 rfl) (by decide) (fun c20 => ?_) (fun c20 => ?_)
        · have hw := hw.1 c20
          refine lv_aload_n hx hb (qaa qdl 8 rfl) rfl (lv_at hl 1 rfl) ?_
          obtain ⟨k21, hRk21, hZk21⟩ := qbbh hE
          refine va_ldcS hx hb hown hRk21 (qaa qdl 9 rfl) ?_
          obtain ⟨hCc, hPc, hDc, hFc⟩ := qac (ws' := (qqZ a1 jbF jb5 x17 x18 jcI jcU jbM jbF cyB jcq)) hP hD hS hA [1, 2] (by decide +kernel) rfl
          refine va_calli (va_runV (As := [.ref k21]) (rest := []) ⟨hx, hb, hml, hown, hts⟩ (qb9 l dC dI cyB cyI cyJ cyP a1 k21 jbF H.size (jcI) (.int jbM) 3 q5p jb5 jcU jcq x17 x18 hw) (cwV 1 hts gX9_readStep_X8_takesWord rfl rfl rfl (by decide +kernel) ⟨nbq rfl, nbq rfl⟩) ⟨qat qsS, va_recv (q := (RX8, TX8, 7)) hK hPc (ci := 8) (q0 := 0) rfl rfl, qbg qsS hPc hK hDc hNw hY ⟨hE, hZk21⟩ hS hFc⟩ rfl rfl hl.1 rfl (lv_room (nbq rfl)) (qaa qdl 10 rfl) ⟨nbq rfl, nbq rfl⟩) hS (fun q _ h => hFc q h) hFc (fun r24 u t H1 locs ht hvm hw hB hz1 hk1 hS => ?_)
          obtain ⟨x22, x23⟩ := u
          obtain ⟨hP1, hK1, hD1⟩ := hB
          rw [ht] at hP1
          obtain ⟨hP, hD⟩ := qad (wr := (qIs a0 jbU jgF jgh jhq jju jkw jb7 jjF jaC jaN jaH jaF jbU cyI jdC jgF cyI jiX jgh cyI jiF jhq cyI jjg jju cyI jlb)) (w1 := (qqZ a1 jbF jb5 x22 x23 jcI jcU jbM jbF cyB jcq)) (wn := (qr2 a0 jbU jgF jgh jhq jju jkw jb7 jjF jaC jaN jaH jaF a1 jbF jb5 x22 x23 jcI jcU jbM jbF cyB jcq jbU cyI jdC jgF cyI jiX jgh cyI jiF jhq cyI jjg jju cyI jlb)) hP hD [1, 2] [0, 3, 4, 5, 6, 7] [0, 6, 7, 1, 2, 3, 4, 5] hCc rfl (by decide +kernel) (by decide +kernel) (by decide +kernel) rfl hk1 hFc hP1 hD1
          generalize H1 = H at hP hS ⊢
          refine lv_if_eq (tgt := 169) hx hb (qaa qdl 11 rfl) (by decide) (fun c25 => ?_) (fun c25 => ?_)
          · have hw := hw.1 c25
            refine lv_aload_n hx hb (qaa qoP 3 rfl) rfl (lv_at hl 1 rfl) ?_
            obtain ⟨hCc, hPc, hDc, hFc⟩ := qac (ws' := (qqZ a1 jbF jb5 x22 x23 jcI jcU jbM jbF cyB jcq)) hP hD hS hA [1, 2] (by decide +kernel) rfl
            refine va_callv (va_runV (As := []) (rest := []) ⟨hx, hb, hml, hown, hts⟩ (qCs l dC dI cyB cyI cyJ cyP a1 jbF H.size (.int x23) (jcI) jb5 jcq x22 jcU jbM hw) (cwV 0 hts gX9_readStep_X8_blameSign rfl rfl rfl (by decide +kernel) ⟨nbq rfl, nbq rfl⟩) ⟨qab, va_recv (q := (RX8, TX8, 7)) hK hPc (ci := 8) (q0 := 0) rfl rfl, qae hPc hK hDc hNw⟩ rfl rfl hl.1 rfl (lv_room (nbq rfl)) (qaa qoP 4 rfl) ⟨nbq rfl, nbq rfl⟩) hS (fun q _ h => hFc q h) hFc (fun u t H1 locs ht hvm hw hB hz1 hk1 hS => ?_)
            obtain ⟨x26, x27, x28⟩ := u
            obtain ⟨hP1, hK1, hD1⟩ := hB
            rw [ht] at hP1
            obtain ⟨hP, hD⟩ := qad (wr := (qIs a0 jbU jgF jgh jhq jju jkw jb7 jjF jaC jaN jaH jaF jbU cyI jdC jgF cyI jiX jgh cyI jiF jhq cyI jjg jju cyI jlb)) (w1 := (qqZ a1 jbF jb5 x26 x23 jcI x27 x28 jbF cyB jcq)) (wn := (qr2 a0 jbU jgF jgh jhq jju jkw jb7 jjF jaC jaN jaH jaF a1 jbF jb5 x26 x23 jcI x27 x28 jbF cyB jcq jbU cyI jdC jgF cyI jiX jgh cyI jiF jhq cyI jjg jju cyI jlb)) hP hD [1, 2] [0, 3, 4, 5, 6, 7] [0, 6, 7, 1, 2, 3, 4, 5] hCc rfl (by decide +kernel) (by decide +kernel) (by decide +kernel) rfl hk1 hFc hP1 hD1
            generalize H1 = H at hP hS ⊢
            exact quT dC dI cyB cyI cyJ cyP a0 a1 jbF jbU jgF jgh jhq jju jkw jaH jaF jcI jaC jaN jb5 jcq Q C0 _ _ _ x26 x23 x27 x28 jdC jiX jiF jjg jb7 jlb jjF hP hD hS (lv_sub hl [1] rfl) hw
          · have hw := hw.2 c25
            refine lv_aload_n hx hb (qaa qdl 12 rfl) rfl (lv_at hl 0 rfl) ?_
            refine lv_iconst (v := 3) hx hb (qaa qdl 13 rfl) (by decide) ?_
            refine lv_iconst (v := 0) hx hb (qaa qdl 14 rfl) (by decide) ?_
            refine lv_iconst (v := 0) hx hb (qaa qdl 15 rfl) (by decide) ?_
            refine lv_iconst (v := 0) hx hb (qaa qoP 0 rfl) (by decide) ?_
            obtain ⟨hCc, hPc, hDc, hFc⟩ := qac (ws' := (q4s a0 jbU jgF jgh jhq jju jkw jb7 jjF jaC jaN jaH jaF jbU cyI jdC jgF cyI jiX jgh cyI jiF jhq cyI jjg)) hP hD hS hA [0, 3, 4, 5, 6] (by decide +kernel) rfl
            refine va_callv (va_runV (As := [.int 3, .int 0, .int 0, .int 0]) (rest := []) ⟨hx, hb, hml, hown, hts⟩ (qV3 l dC dI cyB cyI cyJ cyP a0 jbU jgF jgh jhq H.size (.ref jju) (jkw) (.int jjF) (.int jaC) (.int jaN) (jaH) (jaF) jdC jiX jiF jjg jb7 3 0 0 0 hw) (cwV 4 hts gX9_readStep_X9_add rfl rfl rfl (by decide +kernel) ⟨nbq rfl, nbq rfl⟩) ⟨qab, va_recv (q := (RX9, TX9, 12)) hK hPc (ci := 9) (q0 := 0) rfl rfl, qae hPc hK hDc hNw⟩ rfl rfl hl.1 rfl (lv_room (nbq rfl)) (qaa qoP 1 rfl) ⟨nbq rfl, nbq rfl⟩) hS (fun q _ h => hFc q h) hFc (fun u t H1 locs ht hvm hw hB hz1 hk1 hS => ?_)
            obtain ⟨f29, f30, f31, f32, x33⟩ := u
            obtain ⟨hP1, hK1, hD1⟩ := hB
            rw [ht] at hP1
            obtain ⟨hP, hD⟩ := qad (wr := (qaRE a1 jbF jb5 x22 x23 jcI jcU jbM jbF cyB jcq jju cyI jlb)) (w1 := (q4s a0 jbU jgF jgh jhq jju jkw x33 jjF jaC jaN jaH jaF jbU cyI f29 jgF cyI f30 jgh cyI f31 jhq cyI f32)) (wn := (qr2 a0 jbU jgF jgh jhq jju jkw x33 jjF jaC jaN jaH jaF a1 jbF jb5 x22 x23 jcI jcU jbM jbF cyB jcq jbU cyI f29 jgF cyI f30 jgh cyI f31 jhq cyI f32 jju cyI jlb)) hP hD [0, 3, 4, 5, 6] [1, 2, 7] [3, 0, 1, 4, 5, 6, 7, 2] hCc rfl (by decide +kernel) (by decide +kernel) (by decide +kernel) rfl hk1 hFc hP1 hD1
            generalize H1 = H at hP hS ⊢
            refine lv_goto (tgt := 173) hx hb (qaa qoP 2 rfl) (by decide) ?_
            exact quT dC dI cyB cyI cyJ cyP a0 a1 jbF jbU jgF jgh jhq jju jkw jaH jaF jcI jaC jaN jb5 jcq Q C0 _ _ _ x22 x23 jcU jbM f29 f30 f31 f32 x33 jlb jjF hP hD hS (lv_sub hl [1] rfl) hw
        · have hw := hw.2 c20
          refine lv_aload_n hx hb (qaa qee 14 rfl) rfl (lv_at hl 1 rfl) ?_
          refine lv_iconst (v := 0) hx hb (qaa qee 15 rfl) (by decide) ?_
          refine lv_aload_n hx hb (qaa qdf 0 rfl) rfl (lv_at hl 0 rfl) ?_
          refine va_get (D := (dC, dI)) (ci := 9) (v := .int jaC) (C := RX9) (T := TX9) (N := 12) hx hb hts qs2 hown hK hP 0 rfl rfl 8 (by decide) (hts _ quW) (fun _ h9 => h9) rfl (qaa qdf 1 rfl) ?_
          refine lv_iconst (v := 1) hx hb (qaa qdf 2 rfl) (by decide) ?_
          refine lv_isub hx hb (qaa qdf 3 rfl) ?_
          obtain ⟨hCc, hPc, hDc, hFc⟩ := qac (ws' := (qqZ a1 jbF jb5 x17 x18 jcI jcU jbM jbF cyB jcq)) hP hD hS hA [1, 2] (by decide +kernel) rfl
          refine va_calli (va_runV (As := [.int 0, .int (jaC - 1)]) (rest := []) ⟨hx, hb, hml, hown, hts⟩ (qh9 l dC dI cyB cyI cyJ cyP a1 jbF H.size (jcI) jb5 jcq x17 jcU jbM x18 0 (jaC - 1) hw) (cwV 2 hts gX9_readStep_X8_number rfl rfl rfl (by decide +kernel) ⟨nbq rfl, nbq rfl⟩) ⟨qab, va_recv (q := (RX8, TX8, 7)) hK hPc (ci := 8) (q0 := 0) rfl rfl, qae hPc hK hDc hNw⟩ rfl rfl hl.1 rfl (lv_room (nbq rfl)) (qaa qdf 4 rfl) ⟨nbq rfl, nbq rfl⟩) hS (fun q _ h => hFc q h) hFc (fun r38 u t H1 locs ht hvm hw hB hz1 hk1 hS => ?_)
          obtain ⟨x34, x35, x36, x37⟩ := u
          obtain ⟨hP1, hK1, hD1⟩ := hB
          rw [ht] at hP1
          obtain ⟨hP, hD⟩ := qad (wr := (qIs a0 jbU jgF jgh jhq jju jkw jb7 jjF jaC jaN jaH jaF jbU cyI jdC jgF cyI jiX jgh cyI jiF jhq cyI jjg jju cyI jlb)) (w1 := (qqZ a1 jbF jb5 x34 x37 jcI x35 x36 jbF cyB jcq)) (wn := (qr2 a0 jbU jgF jgh jhq jju jkw jb7 jjF jaC jaN jaH jaF a1 jbF jb5 x34 x37 jcI x35 x36 jbF cyB jcq jbU cyI jdC jgF cyI jiX jgh cyI jiF jhq cyI jjg jju cyI jlb)) hP hD [1, 2] [0, 3, 4, 5, 6, 7] [0, 6, 7, 1, 2, 3, 4, 5] hCc rfl (by decide +kernel) (by decide +kernel) (by decide +kernel) rfl hk1 hFc hP1 hD1
          generalize H1 = H at hP hS ⊢
          refine lv_istore_n (lv' := [(2, .int r38), (0, .ref a0), (1, .ref a1)]) hx hb (qaa qdf 5 rfl) rfl hl (by decide) rfl (fun ls hl => ?_)
          refine lv_aload_n hx hb (qaa qdf 6 rfl) rfl (lv_at hl 2 rfl) ?_
          refine lv_iconst (v := 0) hx hb (qaa qdf 7 rfl) (by decide) ?_
          refine lv_aload_n hx hb (qaa qdf 8 rfl) rfl (lv_at hl 1 rfl) ?_
          refine va_get (D := (dC, dI)) (ci := 9) (v := .int jaC) (C := RX9) (T := TX9) (N := 12) hx hb hts qs2 hown hK hP 0 rfl rfl 8 (by decide) (hts _ quW) (fun _ h9 => h9) rfl (qaa qdf 9 rfl) ?_
          refine lv_iconst (v := 1) hx hb (qaa qdf 10 rfl) (by decide) ?_
          refine lv_isub hx hb (qaa qdf 11 rfl) ?_
          obtain ⟨hCc, hPc, hDc, hFc⟩ := qac (ws' := (qqZ a1 jbF jb5 x34 x37 jcI x35 x36 jbF cyB jcq)) hP hD hS hA [1, 2] (by decide +kernel) rfl
          refine va_calli (va_runV (As := [.int 0, .int (jaC - 1)]) (rest := []) ⟨hx, hb, hml, hown, hts⟩ (qh9 l dC dI cyB cyI cyJ cyP a1 jbF H.size (jcI) jb5 jcq x34 x35 x36 x37 0 (jaC - 1) hw) (cwV 2 hts gX9_readStep_X8_number rfl rfl rfl (by decide +kernel) ⟨nbq rfl, nbq rfl⟩) ⟨qab, va_recv (q := (RX8, TX8, 7)) hK hPc (ci := 8) (q0 := 0) rfl rfl, qae hPc hK hDc hNw⟩ rfl rfl hl.1 rfl (lv_room (nbq rfl)) (qaa qdf 12 rfl) ⟨nbq rfl, nbq rfl⟩) hS (fun q _ h => hFc q h) hFc (fun r43 u t H1 locs ht hvm hw hB hz1 hk1 hS => ?_)
          obtain ⟨x39, x40, x41, x42⟩ := u
          obtain ⟨hP1, hK1, hD1⟩ := hB
          rw [ht] at hP1
          obtain ⟨hP, hD⟩ := qad (wr := (qIs a0 jbU jgF jgh jhq jju jkw jb7 jjF jaC jaN jaH jaF jbU cyI jdC jgF cyI jiX jgh cyI jiF jhq cyI jjg jju cyI jlb)) (w1 := (qqZ a1 jbF jb5 x39 x42 jcI x40 x41 jbF cyB jcq)) (wn := (qr2 a0 jbU jgF jgh jhq jju jkw jb7 jjF jaC jaN jaH jaF a1 jbF jb5 x39 x42 jcI x40 x41 jbF cyB jcq jbU cyI jdC jgF cyI jiX jgh cyI jiF jhq cyI jjg jju cyI jlb)) hP hD [1, 2] [0, 3, 4, 5, 6, 7] [0, 6, 7, 1, 2, 3, 4, 5] hCc rfl (by decide +kernel) (by decide +kernel) (by decide +kernel) rfl hk1 hFc hP1 hD1
          generalize H1 = H at hP hS ⊢
          refine lv_istore_n (lv' := [(3, .int r43), (2, .int r38), (0, .ref a0), (1, .ref a1)]) hx hb (qaa qdf 13 rfl) rfl hl (by decide) rfl (fun ls hl => ?_)
          refine lv_aload_n hx hb (qaa qdf 14 rfl) rfl (lv_at hl 2 rfl) ?_
          refine lv_iconst (v := 2) hx hb (qaa qdf 15 rfl) (by decide) ?_
          refine lv_iload_n hx hb (qaa qdl 0 rfl) rfl (lv_at hl 1 rfl) ?_
          refine lv_iload_n hx hb (qaa qdl 1 rfl) rfl (lv_at hl 0 rfl) ?_
          refine lv_aload_n hx hb (qaa qdl 2 rfl) rfl (lv_at hl 3 rfl) ?_
          refine lv_iconst (v := 1) hx hb (qaa qdl 3 rfl) (by decide) ?_
          refine lv_bipush (v := 99) hx hb (qaa qdl 4 rfl) (by decide) ?_
          obtain ⟨hCc, hPc, hDc, hFc⟩ := qac (ws' := (qqZ a1 jbF jb5 x39 x42 jcI x40 x41 jbF cyB jcq)) hP hD hS hA [1, 2] (by decide +kernel) rfl
          refine va_calli (va_runV (As := [.int 1, .int 99]) (rest := [.int r43, .int r38, .int 2, .ref a0]) ⟨hx, hb, hml, hown, hts⟩ (qh9 l dC dI cyB cyI cyJ cyP a1 jbF H.size (jcI) jb5 jcq x39 x40 x41 x42 1 99 hw) (cwV 2 hts gX9_readStep_X8_number rfl rfl rfl (by decide +kernel) ⟨nbq rfl, nbq rfl⟩) ⟨qab, va_recv (q := (RX8, TX8, 7)) hK hPc (ci := 8) (q0 := 0) rfl rfl, qae hPc hK hDc hNw⟩ rfl rfl hl.1 rfl (lv_room (nbq rfl)) (qaa qdl 5 rfl) ⟨nbq rfl, nbq rfl⟩) hS (fun q _ h => hFc q h) hFc (fun r48 u t H1 locs ht hvm hw hB hz1 hk1 hS => ?_)
          obtain ⟨x44, x45, x46, x47⟩ := u
          obtain ⟨hP1, hK1, hD1⟩ := hB
          rw [ht] at hP1
          obtain ⟨hP, hD⟩ := qad (wr := (qIs a0 jbU jgF jgh jhq jju jkw jb7 jjF jaC jaN jaH jaF jbU cyI jdC jgF cyI jiX jgh cyI jiF jhq cyI jjg jju cyI jlb)) (w1 := (qqZ a1 jbF jb5 x44 x47 jcI x45 x46 jbF cyB jcq)) (wn := (qr2 a0 jbU jgF jgh jhq jju jkw jb7 jjF jaC jaN jaH jaF a1 jbF jb5 x44 x47 jcI x45 x46 jbF cyB jcq jbU cyI jdC jgF cyI jiX jgh cyI jiF jhq cyI jjg jju cyI jlb)) hP hD [1, 2] [0, 3, 4, 5, 6, 7] [0, 6, 7, 1, 2, 3, 4, 5] hCc rfl (by decide +kernel) (by decide +kernel) (by decide +kernel) rfl hk1 hFc hP1 hD1
          generalize H1 = H at hP hS ⊢
          obtain ⟨hCc, hPc, hDc, hFc⟩ := qac (ws' := (q4s a0 jbU jgF jgh jhq jju jkw jb7 jjF jaC jaN jaH jaF jbU cyI jdC jgF cyI jiX jgh cyI jiF jhq cyI jjg)) hP hD hS hA [0, 3, 4, 5, 6] (by decide +kernel) rfl
          refine va_callv (va_runV (As := [.int 2, .int r38, .int r43, .int r48]) (rest := []) ⟨hx, hb, hml, hown, hts⟩ (qV3 l dC dI cyB cyI cyJ cyP a0 jbU jgF jgh jhq H.size (.ref jju) (jkw) (.int jjF) (.int jaC) (.int jaN) (jaH) (jaF) jdC jiX jiF jjg jb7 2 r38 r43 r48 hw) (cwV 4 hts gX9_readStep_X9_add rfl rfl rfl (by decide +kernel) ⟨nbq rfl, nbq rfl⟩) ⟨qab, va_recv (q := (RX9, TX9, 12)) hK hPc (ci := 9) (q0 := 0) rfl rfl, qae hPc hK hDc hNw⟩ rfl rfl hl.1 rfl (lv_room (nbq rfl)) (qaa qdl 6 rfl) ⟨nbq rfl, nbq rfl⟩) hS (fun q _ h => hFc q h) hFc (fun u t H1 locs ht hvm hw hB hz1 hk1 hS => ?_)
          obtain ⟨f49, f50, f51, f52, x53⟩ := u
          obtain ⟨hP1, hK1, hD1⟩ := hB
          rw [ht] at hP1
          obtain ⟨hP, hD⟩ := qad (wr := (qaRE a1 jbF jb5 x44 x47 jcI x45 x46 jbF cyB jcq jju cyI jlb)) (w1 := (q4s a0 jbU jgF jgh jhq jju jkw x53 jjF jaC jaN jaH jaF jbU cyI f49 jgF cyI f50 jgh cyI f51 jhq cyI f52)) (wn := (qr2 a0 jbU jgF jgh jhq jju jkw x53 jjF jaC jaN jaH jaF a1 jbF jb5 x44 x47 jcI x45 x46 jbF cyB jcq jbU cyI f49 jgF cyI f50 jgh cyI f51 jhq cyI f52 jju cyI jlb)) hP hD [0, 3, 4, 5, 6] [1, 2, 7] [3, 0, 1, 4, 5, 6, 7, 2] hCc rfl (by decide +kernel) (by decide +kernel) (by decide +kernel) rfl hk1 hFc hP1 hD1
          generalize H1 = H at hP hS ⊢
          refine lv_goto (tgt := 173) hx hb (qaa qdl 7 rfl) (by decide) ?_
          exact quT dC dI cyB cyI cyJ cyP a0 a1 jbF jbU jgF jgh jhq jju jkw jaH jaF jcI jaC jaN jb5 jcq Q C0 _ _ _ x44 x47 x45 x46 f49 f50 f51 f52 x53 jlb jjF hP hD hS (lv_sub hl [3] rfl) hw
      · have hw := hw.2 c15
        refine lv_aload_n hx hb (qaa qer 5 rfl) rfl (lv_at hl 1 rfl) ?_
        refine lv_iconst (v := 0) hx hb (qaa qer 6 rfl) (by decide) ?_
        refine lv_aload_n hx hb (qaa qer 7 rfl) rfl (lv_at hl 0 rfl) ?_
        refine va_get (D := (dC, dI)) (ci := 9) (v := .int jaC) (C := RX9) (T := TX9) (N := 12) hx hb hts qs2 hown hK hP 0 rfl rfl 8 (by decide) (hts _ quW) (fun _ h9 => h9) rfl (qaa qer 8 rfl) ?_
        refine lv_iconst (v := 1) hx hb (qaa qer 9 rfl) (by decide) ?_
        refine lv_isub hx hb (qaa qer 10 rfl) ?_
        obtain ⟨hCc, hPc, hDc, hFc⟩ := qac (ws' := (qqZ a1 jbF jb5 x12 x13 jcI jcU jbM jbF cyB jcq)) hP hD hS hA [1, 2] (by decide +kernel) rfl
        refine va_calli (va_runV (As := [.int 0, .int (jaC - 1)]) (rest := []) ⟨hx, hb, hml, hown, hts⟩ (qh9 l dC dI cyB cyI cyJ cyP a1 jbF H.size (jcI) jb5 jcq x12 jcU jbM x13 0 (jaC - 1) hw) (cwV 2 hts gX9_readStep_X8_number rfl rfl rfl (by decide +kernel) ⟨nbq rfl, nbq rfl⟩) ⟨qab, va_recv (q := (RX8, TX8, 7)) hK hPc (ci := 8) (q0 := 0) rfl rfl, qae hPc hK hDc hNw⟩ rfl rfl hl.1 rfl (lv_room (nbq rfl)) (qaa qer 11 rfl) ⟨nbq rfl, nbq rfl⟩) hS (fun q _ h => hFc q h) hFc (fun r58 u t H1 locs ht hvm hw hB hz1 hk1 hS => ?_)
        obtain ⟨x54, x55, x56, x57⟩ := u
        obtain ⟨hP1, hK1, hD1⟩ := hB
        rw [ht] at hP1
        obtain ⟨hP, hD⟩ := qad (wr := (qIs a0 jbU jgF jgh jhq jju jkw jb7 jjF jaC jaN jaH jaF jbU cyI jdC jgF cyI jiX jgh cyI jiF jhq cyI jjg jju cyI jlb)) (w1 := (qqZ a1 jbF jb5 x54 x57 jcI x55 x56 jbF cyB jcq)) (wn := (qr2 a0 jbU jgF jgh jhq jju jkw jb7 jjF jaC jaN jaH jaF a1 jbF jb5 x54 x57 jcI x55 x56 jbF cyB jcq jbU cyI jdC jgF cyI jiX jgh cyI jiF jhq cyI jjg jju cyI jlb)) hP hD [1, 2] [0, 3, 4, 5, 6, 7] [0, 6, 7, 1, 2, 3, 4, 5] hCc rfl (by decide +kernel) (by decide +kernel) (by decide +kernel) rfl hk1 hFc hP1 hD1
        generalize H1 = H at hP hS ⊢
        refine lv_istore_n (lv' := [(2, .int r58), (0, .ref a0), (1, .ref a1)]) hx hb (qaa qer 12 rfl) rfl hl (by decide) rfl (fun ls hl => ?_)
        refine lv_aload_n hx hb (qaa qer 13 rfl) rfl (lv_at hl 1 rfl) ?_
        refine lv_iconst (v := 1) hx hb (qaa qer 14 rfl) (by decide) ?_
        refine lv_iload_n hx hb (qaa qer 15 rfl) rfl (lv_at hl 0 rfl) ?_
        refine lv_aload_n hx hb (qaa qee 0 rfl) rfl (lv_at hl 2 rfl) ?_
        refine lv_iconst (v := 0) hx hb (qaa qee 1 rfl) (by decide) ?_
        refine lv_aload_n hx hb (qaa qee 2 rfl) rfl (lv_at hl 1 rfl) ?_
        refine va_get (D := (dC, dI)) (ci := 9) (v := .int jaC) (C := RX9) (T := TX9) (N := 12) hx hb hts qs2 hown hK hP 0 rfl rfl 8 (by decide) (hts _ quW) (fun _ h9 => h9) rfl (qaa qee 3 rfl) ?_
        refine lv_iconst (v := 1) hx hb (qaa qee 4 rfl) (by decide) ?_
        refine lv_isub hx hb (qaa qee 5 rfl) ?_
        obtain ⟨hCc, hPc, hDc, hFc⟩ := qac (ws' := (qqZ a1 jbF jb5 x54 x57 jcI x55 x56 jbF cyB jcq)) hP hD hS hA [1, 2] (by decide +kernel) rfl
        refine va_calli (va_runV (As := [.int 0, .int (jaC - 1)]) (rest := [.int r58, .int 1, .ref a0]) ⟨hx, hb, hml, hown, hts⟩ (qh9 l dC dI cyB cyI cyJ cyP a1 jbF H.size (jcI) jb5 jcq x54 x55 x56 x57 0 (jaC - 1) hw) (cwV 2 hts gX9_readStep_X8_number rfl rfl rfl (by decide +kernel) ⟨nbq rfl, nbq rfl⟩) ⟨qab, va_recv (q := (RX8, TX8, 7)) hK hPc (ci := 8) (q0 := 0) rfl rfl, qae hPc hK hDc hNw⟩ rfl rfl hl.1 rfl (lv_room (nbq rfl)) (qaa qee 6 rfl) ⟨nbq rfl, nbq rfl⟩) hS (fun q _ h => hFc q h) hFc (fun r63 u t H1 locs ht hvm hw hB hz1 hk1 hS => ?_)
        obtain ⟨x59, x60, x61, x62⟩ := u
        obtain ⟨hP1, hK1, hD1⟩ := hB
        rw [ht] at hP1
        obtain ⟨hP, hD⟩ := qad (wr := (qIs a0 jbU jgF jgh jhq jju jkw jb7 jjF jaC jaN jaH jaF jbU cyI jdC jgF cyI jiX jgh cyI jiF jhq cyI jjg jju cyI jlb)) (w1 := (qqZ a1 jbF jb5 x59 x62 jcI x60 x61 jbF cyB jcq)) (wn := (qr2 a0 jbU jgF jgh jhq jju jkw jb7 jjF jaC jaN jaH jaF a1 jbF jb5 x59 x62 jcI x60 x61 jbF cyB jcq jbU cyI jdC jgF cyI jiX jgh cyI jiF jhq cyI jjg jju cyI jlb)) hP hD [1, 2] [0, 3, 4, 5, 6, 7] [0, 6, 7, 1, 2, 3, 4, 5] hCc rfl (by decide +kernel) (by decide +kernel) (by decide +kernel) rfl hk1 hFc hP1 hD1
        generalize H1 = H at hP hS ⊢
        refine lv_iconst (v := 0) hx hb (qaa qee 7 rfl) (by decide) ?_
        obtain ⟨hCc, hPc, hDc, hFc⟩ := qac (ws' := (q4s a0 jbU jgF jgh jhq jju jkw jb7 jjF jaC jaN jaH jaF jbU cyI jdC jgF cyI jiX jgh cyI jiF jhq cyI jjg)) hP hD hS hA [0, 3, 4, 5, 6] (by decide +kernel) rfl
        refine va_callv (va_runV (As := [.int 1, .int r58, .int r63, .int 0]) (rest := []) ⟨hx, hb, hml, hown, hts⟩ (qV3 l dC dI cyB cyI cyJ cyP a0 jbU jgF jgh jhq H.size (.ref jju) (jkw) (.int jjF) (.int jaC) (.int jaN) (jaH) (jaF) jdC jiX jiF jjg jb7 1 r58 r63 0 hw) (cwV 4 hts gX9_readStep_X9_add rfl rfl rfl (by decide +kernel) ⟨nbq rfl, nbq rfl⟩) ⟨qab, va_recv (q := (RX9, TX9, 12)) hK hPc (ci := 9) (q0 := 0) rfl rfl, qae hPc hK hDc hNw⟩ rfl rfl hl.1 rfl (lv_room (nbq rfl)) (qaa qee 8 rfl) ⟨nbq rfl, nbq rfl⟩) hS (fun q _ h => hFc q h) hFc (fun u t H1 locs ht hvm hw hB hz1 hk1 hS => ?_)
        obtain ⟨f64, f65, f66, f67, x68⟩ := u
        obtain ⟨hP1, hK1, hD1⟩ := hB
        rw [ht] at hP1
        obtain ⟨hP, hD⟩ := qad (wr := (qaRE a1 jbF jb5 x59 x62 jcI x60 x61 jbF cyB jcq jju cyI jlb)) (w1 := (q4s a0 jbU jgF jgh jhq jju jkw x68 jjF jaC jaN jaH jaF jbU cyI f64 jgF cyI f65 jgh cyI f66 jhq cyI f67)) (wn := (qr2 a0 jbU jgF jgh jhq jju jkw x68 jjF jaC jaN jaH jaF a1 jbF jb5 x59 x62 jcI x60 x61 jbF cyB jcq jbU cyI f64 jgF cyI f65 jgh cyI f66 jhq cyI f67 jju cyI jlb)) hP hD [0, 3, 4, 5, 6] [1, 2, 7] [3, 0, 1, 4, 5, 6, 7, 2] hCc rfl (by decide +kernel) (by decide +kernel) (by decide +kernel) rfl hk1 hFc hP1 hD1
        generalize H1 = H at hP hS ⊢
        refine lv_goto (tgt := 173) hx hb (qaa qee 9 rfl) (by decide) ?_
        exact quT dC dI cyB cyI cyJ cyP a0 a1 jbF jbU jgF jgh jhq jju jkw jaH jaF jcI jaC jaN jb5 jcq Q C0 _ _ _ x59 x62 x60 x61 f64 f65 f66 f67 x68 jlb jjF hP hD hS (lv_sub hl [2] rfl) hw
    · have hw := hw.2 c10
      refine lv_aload_n hx hb (qaa qfu 12 rfl) rfl (lv_at hl 1 rfl) ?_
      refine lv_iconst (v := 0) hx hb (qaa qfu 13 rfl) (by decide) ?_
      refine lv_aload_n hx hb (qaa qfu 14 rfl) rfl (lv_at hl 0 rfl) ?_
      refine va_get (D := (dC, dI)) (ci := 9) (v := .int jaC) (C := RX9) (T := TX9) (N := 12) hx hb hts qs2 hown hK hP 0 rfl rfl 8 (by decide) (hts _ quW) (fun _ h9 => h9) rfl (qaa qfu 15 rfl) ?_
      refine lv_iconst (v := 1) hx hb (qaa qec 0 rfl) (by decide) ?_
      refine lv_isub hx hb (qaa qec 1 rfl) ?_
      obtain ⟨hCc, hPc, hDc, hFc⟩ := qac (ws' := (qqZ a1 jbF jb5 x7 x8 jcI jcU jbM jbF cyB jcq)) hP hD hS hA [1, 2] (by decide +kernel) rfl
      refine va_calli (va_runV (As := [.int 0, .int (jaC - 1)]) (rest := []) ⟨hx, hb, hml, hown, hts⟩ (qh9 l dC dI cyB cyI cyJ cyP a1 jbF H.size (jcI) jb5 jcq x7 jcU jbM x8 0 (jaC - 1) hw) (cwV 2 hts gX9_readStep_X8_number rfl rfl rfl (by decide +kernel) ⟨nbq rfl, nbq rfl⟩) ⟨qab, va_recv (q := (RX8, TX8, 7)) hK hPc (ci := 8) (q0 := 0) rfl rfl, qae hPc hK hDc hNw⟩ rfl rfl hl.1 rfl (lv_room (nbq rfl)) (qaa qec 2 rfl) ⟨nbq rfl, nbq rfl⟩) hS (fun q _ h => hFc q h) hFc (fun r73 u t H1 locs ht hvm hw hB hz1 hk1 hS => ?_)
      obtain ⟨x69, x70, x71, x72⟩ := u
      obtain ⟨hP1, hK1, hD1⟩ := hB
      rw [ht] at hP1
      obtain ⟨hP, hD⟩ := qad (wr := (qIs a0 jbU jgF jgh jhq jju jkw jb7 jjF jaC jaN jaH jaF jbU cyI jdC jgF cyI jiX jgh cyI jiF jhq cyI jjg jju cyI jlb)) (w1 := (qqZ a1 jbF jb5 x69 x72 jcI x70 x71 jbF cyB jcq)) (wn := (qr2 a0 jbU jgF jgh jhq jju jkw jb7 jjF jaC jaN jaH jaF a1 jbF jb5 x69 x72 jcI x70 x71 jbF cyB jcq jbU cyI jdC jgF cyI jiX jgh cyI jiF jhq cyI jjg jju cyI jlb)) hP hD [1, 2] [0, 3, 4, 5, 6, 7] [0, 6, 7, 1, 2, 3, 4, 5] hCc rfl (by decide +kernel) (by decide +kernel) (by decide +kernel) rfl hk1 hFc hP1 hD1
      generalize H1 = H at hP hS ⊢
      refine lv_istore_n (lv' := [(2, .int r73), (0, .ref a0), (1, .ref a1)]) hx hb (qaa qec 3 rfl) rfl hl (by decide) rfl (fun ls hl => ?_)
      refine lv_aload_n hx hb (qaa qec 4 rfl) rfl (lv_at hl 1 rfl) ?_
      refine lv_iconst (v := 0) hx hb (qaa qec 5 rfl) (by decide) ?_
      refine lv_iload_n hx hb (qaa qec 6 rfl) rfl (lv_at hl 0 rfl) ?_
      refine lv_aload_n hx hb (qaa qec 7 rfl) rfl (lv_at hl 2 rfl) ?_
      refine lv_iconst (v := 0) hx hb (qaa qec 8 rfl) (by decide) ?_
      refine lv_aload_n hx hb (qaa qec 9 rfl) rfl (lv_at hl 1 rfl) ?_
      refine va_get (D := (dC, dI)) (ci := 9) (v := .int jaN) (C := RX9) (T := TX9) (N := 12) hx hb hts qs2 hown hK hP 0 rfl rfl 9 (by decide) (hts _ q6C) (fun _ h9 => h9) rfl (qaa qec 10 rfl) ?_
      refine lv_iconst (v := 1) hx hb (qaa qec 11 rfl) (by decide) ?_
      refine lv_isub hx hb (qaa qec 12 rfl) ?_
      obtain ⟨hCc, hPc, hDc, hFc⟩ := qac (ws' := (qqZ a1 jbF jb5 x69 x72 jcI x70 x71 jbF cyB jcq)) hP hD hS hA [1, 2] (by decide +kernel) rfl
      refine va_calli (va_runV (As := [.int 0, .int (jaN - 1)]) (rest := [.int r73, .int 0, .ref a0]) ⟨hx, hb, hml, hown, hts⟩ (qh9 l dC dI cyB cyI cyJ cyP a1 jbF H.size (jcI) jb5 jcq x69 x70 x71 x72 0 (jaN - 1) hw) (cwV 2 hts gX9_readStep_X8_number rfl rfl rfl (by decide +kernel) ⟨nbq rfl, nbq rfl⟩) ⟨qab, va_recv (q := (RX8, TX8, 7)) hK hPc (ci := 8) (q0 := 0) rfl rfl, qae hPc hK hDc hNw⟩ rfl rfl hl.1 rfl (lv_room (nbq rfl)) (qaa qec 13 rfl) ⟨nbq rfl, nbq rfl⟩) hS (fun q _ h => hFc q h) hFc (fun r78 u t H1 locs ht hvm hw hB hz1 hk1 hS => ?_)
      obtain ⟨x74, x75, x76, x77⟩ := u
      obtain ⟨hP1, hK1, hD1⟩ := hB
      rw [ht] at hP1
      obtain ⟨hP, hD⟩ := qad (wr := (qIs a0 jbU jgF jgh jhq jju jkw jb7 jjF jaC jaN jaH jaF jbU cyI jdC jgF cyI jiX jgh cyI jiF jhq cyI jjg jju cyI jlb)) (w1 := (qqZ a1 jbF jb5 x74 x77 jcI x75 x76 jbF cyB jcq)) (wn := (qr2 a0 jbU jgF jgh jhq jju jkw jb7 jjF jaC jaN jaH jaF a1 jbF jb5 x74 x77 jcI x75 x76 jbF cyB jcq jbU cyI jdC jgF cyI jiX jgh cyI jiF jhq cyI jjg jju cyI jlb)) hP hD [1, 2] [0, 3, 4, 5, 6, 7] [0, 6, 7, 1, 2, 3, 4, 5] hCc rfl (by decide +kernel) (by decide +kernel) (by decide +kernel) rfl hk1 hFc hP1 hD1
      generalize H1 = H at hP hS ⊢
      refine lv_iconst (v := 0) hx hb (qaa qec 14 rfl) (by decide) ?_
      obtain ⟨hCc, hPc, hDc, hFc⟩ := qac (ws' := (q4s a0 jbU jgF jgh jhq jju jkw jb7 jjF jaC jaN jaH jaF jbU cyI jdC jgF cyI jiX jgh cyI jiF jhq cyI jjg)) hP hD hS hA [0, 3, 4, 5, 6] (by decide +kernel) rfl
      refine va_callv (va_runV (As := [.int 0, .int r73, .int r78, .int 0]) (rest := []) ⟨hx, hb, hml, hown, hts⟩ (qV3 l dC dI cyB cyI cyJ cyP a0 jbU jgF jgh jhq H.size (.ref jju) (jkw) (.int jjF) (.int jaC) (.int jaN) (jaH) (jaF) jdC jiX jiF jjg jb7 0 r73 r78 0 hw) (cwV 4 hts gX9_readStep_X9_add rfl rfl rfl (by decide +kernel) ⟨nbq rfl, nbq rfl⟩) ⟨qab, va_recv (q := (RX9, TX9, 12)) hK hPc (ci := 9) (q0 := 0) rfl rfl, qae hPc hK hDc hNw⟩ rfl rfl hl.1 rfl (lv_room (nbq rfl)) (qaa qec 15 rfl) ⟨nbq rfl, nbq rfl⟩) hS (fun q _ h => hFc q h) hFc (fun u t H1 locs ht hvm hw hB hz1 hk1 hS => ?_)
      obtain ⟨f79, f80, f81, f82, x83⟩ := u
      obtain ⟨hP1, hK1, hD1⟩ := hB
      rw [ht] at hP1
      obtain ⟨hP, hD⟩ := qad (wr := (qaRE a1 jbF jb5 x74 x77 jcI x75 x76 jbF cyB jcq jju cyI jlb)) (w1 := (q4s a0 jbU jgF jgh jhq jju jkw x83 jjF jaC jaN jaH jaF jbU cyI f79 jgF cyI f80 jgh cyI f81 jhq cyI f82)) (wn := (qr2 a0 jbU jgF jgh jhq jju jkw x83 jjF jaC jaN jaH jaF a1 jbF jb5 x74 x77 jcI x75 x76 jbF cyB jcq jbU cyI f79 jgF cyI f80 jgh cyI f81 jhq cyI f82 jju cyI jlb)) hP hD [0, 3, 4, 5, 6] [1, 2, 7] [3, 0, 1, 4, 5, 6, 7, 2] hCc rfl (by decide +kernel) (by decide +kernel) (by decide +kernel) rfl hk1 hFc hP1 hD1
      generalize H1 = H at hP hS ⊢
      refine lv_goto (tgt := 173) hx hb (qaa qer 0 rfl) (by decide) ?_
      exact quT dC dI cyB cyI cyJ cyP a0 a1 jbF jbU jgF jgh jhq jju jkw jaH jaF jcI jaC jaN jb5 jcq Q C0 _ _ _ x74 x77 x75 x76 f79 f80 f81 f82 x83 jlb jjF hP hD hS (lv_sub hl [2] rfl) hw
  · have hw := hw.2 c5
    refine lv_aload_n hx hb (qaa qfu 4 rfl) rfl (lv_at hl 0 rfl) ?_
    refine lv_aload_n hx hb (qaa qfu 5 rfl) rfl (lv_at hl 1 rfl) ?_
    obtain ⟨hCc, hPc, hDc, hFc⟩ := qac (ws' := (qa3b a0 jbU jgF jgh jhq jju jkw jb7 jjF jaC jaN jaH jaF a1 jbF jb5 x2 x3 jcI jcU jbM jbF cyB jcq jju cyI jlb jbU cyI jdC jgF cyI jiX jgh cyI jiF jhq cyI jjg)) hP hD hS hA [0, 1, 2, 7, 3, 4, 5, 6] (by decide +kernel) rfl
    refine va_callv (va_runV (As := [.ref a1]) (rest := []) ⟨hx, hb, hml, hown, hts⟩ (qaGU l dC dI cyB cyI cyJ cyP a0 a1 jbF jju jbU jgF jgh jhq H.size (jkw) (.int jaC) (.int jaN) (jaH) (jaF) (jcI) jb5 jcq x2 jcU jbM x3 jlb jjF jdC jiX jiF jjg jb7 hw) (cwV 1 hts gX9_readStep_X9_openLoop rfl rfl rfl (by decide +kernel) ⟨nbq rfl, nbq rfl⟩) ⟨qab, va_recv (q := (RX9, TX9, 12)) hK hPc (ci := 9) (q0 := 0) rfl rfl, qae hPc hK hDc hNw⟩ rfl rfl hl.1 rfl (lv_room (nbq rfl)) (qaa qfu 6 rfl) ⟨nbq rfl, nbq rfl⟩) hS (fun q _ h => hFc q h) hFc (fun u t H1 locs ht hvm hw hB hz1 hk1 hS => ?_)
    obtain ⟨x84, x85, x86, x87, f88, x89, f90, f91, f92, f93, x94⟩ := u
    obtain ⟨hP1, hK1, hD1⟩ := hB
    rw [ht] at hP1
    obtain ⟨hP, hD⟩ := qad (wr := []) (w1 := (qa3b a0 jbU jgF jgh jhq jju jkw x94 x89 jaC jaN jaH jaF a1 jbF jb5 x84 x87 jcI x85 x86 jbF cyB jcq jju cyI f88 jbU cyI f90 jgF cyI f91 jgh cyI f92 jhq cyI f93)) (wn := (qr2 a0 jbU jgF jgh jhq jju jkw x94 x89 jaC jaN jaH jaF a1 jbF jb5 x84 x87 jcI x85 x86 jbF cyB jcq jbU cyI f90 jgF cyI f91 jgh cyI f92 jhq cyI f93 jju cyI f88)) hP hD [0, 1, 2, 7, 3, 4, 5, 6] [] [0, 1, 2, 4, 5, 6, 7, 3] hCc rfl (by decide +kernel) (by decide +kernel) (by decide +kernel) rfl hk1 hFc hP1 hD1
    generalize H1 = H at hP hS ⊢
    exact ((W.vret hx hb hr (fun t ht hW => ⟨⟨(x84, x87, x85, x86, f90, f91, f92, f93, x94, f88, x89), rfl, hw, by rw [ht]; exact hP, va_K.moved hW.alike hK, hD⟩, hS.F ht⟩) hS.2.2 (qaa qfu 7 rfl)))
